def mFoR (N : Nat) (s : RS) (v0 : Int32) (v1 : Int32) (v2 : Int32) : Option (RS) := (ex_Ref_fontOrRule N s.o_this s.o_desk s.o_sheet s.g_desk_state s.n_sheet_dots s.g_sheet_dots s.o_shelf s.g_shelf_ids s.g_shelf_permanent s.g_shelf_attributes s.g_shelf_glyph s.g_shelf_store v0 v1 v2).map (fun u => (((u.1, s.g_pages, s.g_fresh, s.g_shownPages, s.g_tape, s.g_seed, s.g_xWhat, s.g_xId, s.g_toDo, s.g_toDoId, s.g_bytes2, s.g_bytes1), s.2.1, s.2.2.1, (u.2.2.1, s.n_sheet_dots, u.2.2.2.1), (u.2.1, s.g_desk_state, s.g_desk_isKept, s.g_desk_steps, s.g_desk_store, s.g_desk_page, s.g_desk_other, s.g_desk_glyph, s.g_desk_kept), (u.2.2.2.2.1, u.2.2.2.2.2.1, u.2.2.2.2.2.2.2.1, u.2.2.2.2.2.2.1, u.2.2.2.2.2.2.2.2.1, u.2.2.2.2.2.2.2.2.2, s.g_shelf_draft, s.g_shelf_wishes, s.g_shelf_pins, s.g_shelf_coming, s.g_shelf_bytes, s.g_shelf_left), s.2.2.2.2.2.2.1, s.2.2.2.2.2.2.2.1, s.2.2.2.2.2.2.2.2.1, s.2.2.2.2.2.2.2.2.2) : RS))

def mInkW (N : Nat) (s : RS) (v0 : Int32) (v1 : Int32) : Option (RS) := (ex_Ref_ink N s.o_this s.o_sheet v0 v1).map (fun u => ((s.1, s.2.1, s.2.2.1, (u, s.n_sheet_dots, s.g_sheet_dots), s.2.2.2.2.1, s.2.2.2.2.2.1, s.2.2.2.2.2.2.1, s.2.2.2.2.2.2.2.1, s.2.2.2.2.2.2.2.2.1, s.2.2.2.2.2.2.2.2.2) : RS))

def mRasW (N : Nat) (s : RS) (v0 : Int32) (v1 : Int32) (v2 : Int32) (v3 : Int32) : Option (RS) := (ex_Ref_raster N s.o_this s.o_desk s.g_seed s.g_desk_state s.o_sheet s.g_fresh s.g_desk_store s.n_sheet_dots s.g_sheet_dots v0 v1 v2 v3).map (fun u => (((u.1, s.g_pages, u.2.2.2.2.2.1, s.g_shownPages, s.g_tape, u.2.2.1, s.g_xWhat, s.g_xId, s.g_toDo, s.g_toDoId, s.g_bytes2, s.g_bytes1), s.2.1, s.2.2.1, (u.2.2.2.2.1, s.n_sheet_dots, u.2.2.2.2.2.2), (u.2.1, u.2.2.2.1, s.g_desk_isKept, s.g_desk_steps, s.g_desk_store, s.g_desk_page, s.g_desk_other, s.g_desk_glyph, s.g_desk_kept), s.2.2.2.2.2.1, s.2.2.2.2.2.2.1, s.2.2.2.2.2.2.2.1, s.2.2.2.2.2.2.2.2.1, s.2.2.2.2.2.2.2.2.2) : RS))

def mFonW (N : Nat) (s : RS) (v0 : Int32) (v1 : Int32) (v2 : Int32) (v3 : Int32) (v4 : Int32) (v5 : Int32) : Option (RS) := (ex_Ref_font N s.o_this s.o_shelf 7 s.g_shelf_draft 14 s.g_shelf_wishes 2 s.g_shelf_pins s.o_desk s.g_shelf_ids s.g_shelf_glyph s.g_shelf_store s.g_shelf_coming s.g_shelf_bytes s.g_desk_store s.g_shelf_attributes s.g_shelf_permanent v0 v1 v2 v3 v4 v5).map (fun u => ((s.1, s.2.1, s.2.2.1, s.2.2.2.1, s.2.2.2.2.1, (u.1, u.2.2.2.2.1, u.2.2.2.2.2.2.2.2.2.1, u.2.2.2.2.2.2.2.2.2.2, u.2.2.2.2.2.1, u.2.2.2.2.2.2.1, u.2.1, u.2.2.1, u.2.2.2.1, u.2.2.2.2.2.2.2.1, u.2.2.2.2.2.2.2.2.1, s.g_shelf_left), s.2.2.2.2.2.2.1, s.2.2.2.2.2.2.2.1, s.2.2.2.2.2.2.2.2.1, s.2.2.2.2.2.2.2.2.2) : RS))

def mXY (s : RS) (o : ob_Ref) (w x : Nat → Int32) : RS := (((o, s.g_pages, s.g_fresh, s.g_shownPages, s.g_tape, s.g_seed, w, x, s.g_toDo, s.g_toDoId, s.g_bytes2, s.g_bytes1), s.2.1, s.2.2.1, s.2.2.2.1, s.2.2.2.2.1, s.2.2.2.2.2.1, s.2.2.2.2.2.2.1, s.2.2.2.2.2.2.2.1, s.2.2.2.2.2.2.2.2.1, s.2.2.2.2.2.2.2.2.2) : RS)
theorem v_div {v : Int} {x : Int32} (h : x = iI v) (hv : -327679999 ≤ v ∧ v ≤ 327679999) (q : 0 ≤ v) : (0 : Int32) ≤ x ∧ x / 10000 = nI (v.toNat / 10000) ∧ x / 1000 = nI (v.toNat / 1000) := by
  have e : x = nI v.toNat := by rw [h, iI_nat q]
  refine ⟨by rw [e]; exact nI_le (a := 0) (by omega) (by omega), ?_, ?_⟩
  · rw [e]; exact nI_div (b := 10000) (by omega) (by omega)
  · rw [e]; exact nI_div (b := 1000) (by omega) (by omega)
theorem v_neg {v : Int} {x : Int32} (h : x = iI v) (hv : -327679999 ≤ v ∧ v ≤ 327679999) (q : ¬ 0 ≤ v) : ¬ (0 : Int32) ≤ x ∧ nI (v.toNat / 10000) = 0 ∧ nI (v.toNat / 1000) = 0 := by
  rw [h, show v.toNat = 0 by omega]
  exact ⟨mt (iI_le (a := 0) (by omega) (by omega)).mp q, rfl, rfl⟩

theorem mo_1 {N : Nat} {v : Int} {s s' : RS} (h0 : s.g_desk_other 0 = 42) (h1 : s.g_desk_other 1 = 99) (h2 : s.g_desk_other 2 = iI v) (hv : -327679999 ≤ v ∧ v ≤ 327679999) (h : mFoR N s (s.g_desk_other 3) (nI (v.toNat / 10000)) (nI (v.toNat / 1000)) = some s') : mOther N s = some s' := by
  unfold mFoR at h
  obtain ⟨r, f, e⟩ := Option.map_eq_some_iff.mp h
  subst e
  unfold mOther
  by_cases q : 0 ≤ v
  · obtain ⟨c, d1, d2⟩ := v_div h2 hv q
    refine Option.map_eq_some_iff.mpr ⟨?w9, ?p9, ?q9⟩
    case p9 =>
      unfold ex_Ref_other
      rw [if_pos c, if_pos c]
      rw [if_pos h0, if_pos h1, d1, d2]
      refine (bind_eq f).trans ?_
      unfold jn_Ref_other_284
      rfl
    case q9 => rfl
  · obtain ⟨c, d1, d2⟩ := v_neg h2 hv q
    refine Option.map_eq_some_iff.mpr ⟨?w8, ?p8, ?q8⟩
    case p8 =>
      unfold ex_Ref_other
      rw [if_neg c, if_neg c]
      rw [d1, d2] at f
      rw [if_pos h0, if_pos h1]
      refine (bind_eq f).trans ?_
      unfold jn_Ref_other_284
      rfl
    case q8 => rfl

theorem mo_2 {N : Nat} {v : Int} {s s' : RS} (h0 : s.g_desk_other 0 = 42) (h1 : s.g_desk_other 1 = 118) (h2 : s.g_desk_other 2 = iI v) (hv : -327679999 ≤ v ∧ v ≤ 327679999) (h : mInkW N s (s.g_desk_other 3) (nI (v.toNat / 10000)) = some s') : mOther N s = some s' := by
  unfold mInkW at h
  obtain ⟨r, f, e⟩ := Option.map_eq_some_iff.mp h
  subst e
  unfold mOther
  by_cases q : 0 ≤ v
  · obtain ⟨c, d1, d2⟩ := v_div h2 hv q
    refine Option.map_eq_some_iff.mpr ⟨?w9, ?p9, ?q9⟩
    case p9 =>
      unfold ex_Ref_other
      rw [if_pos c, if_pos c]
      rw [if_pos h0, if_neg (by rw [h1]; decide)]
      unfold jn_Ref_other_107c2
      rw [if_pos h0, if_pos h1, d1]
      refine (bind_eq f).trans ?_
      unfold jn_Ref_other_284
      rfl
    case q9 => rfl
  · obtain ⟨c, d1, d2⟩ := v_neg h2 hv q
    refine Option.map_eq_some_iff.mpr ⟨?w8, ?p8, ?q8⟩
    case p8 =>
      unfold ex_Ref_other
      rw [if_neg c, if_neg c]
      rw [d1] at f
      rw [if_pos h0, if_neg (by rw [h1]; decide)]
      unfold jn_Ref_other_107q16
      rw [if_pos h0, if_pos h1]
      refine (bind_eq f).trans ?_
      unfold jn_Ref_other_284
      rfl
    case q8 => rfl

theorem mo_3_116 {N : Nat} {v : Int} {s s' : RS} (h0 : s.g_desk_other 0 = 42) (h1 : s.g_desk_other 1 = 116) (h2 : s.g_desk_other 2 = iI v) (hv : -327679999 ≤ v ∧ v ≤ 327679999) (h : mRasW N s (s.g_desk_other 1) (s.g_desk_other 3) (nI (v.toNat / 10000)) (s.g_desk_other 5) = some s') : mOther N s = some s' := by
  unfold mRasW at h
  obtain ⟨r, f, e⟩ := Option.map_eq_some_iff.mp h
  subst e
  unfold mOther
  by_cases q : 0 ≤ v
  · obtain ⟨c, d1, d2⟩ := v_div h2 hv q
    refine Option.map_eq_some_iff.mpr ⟨?w9, ?p9, ?q9⟩
    case p9 =>
      unfold ex_Ref_other
      rw [if_pos c, if_pos c]
      rw [if_pos h0, if_neg (by rw [h1]; decide)]
      unfold jn_Ref_other_107c2
      rw [if_pos h0, if_neg (by rw [h1]; decide)]
      unfold jn_Ref_other_130d3
      rw [if_pos h0, if_pos h1]
      unfold jn_Ref_other_154h7
      rw [d1]
      refine (bind_eq f).trans ?_
      unfold jn_Ref_other_284
      rfl
    case q9 => rfl
  · obtain ⟨c, d1, d2⟩ := v_neg h2 hv q
    refine Option.map_eq_some_iff.mpr ⟨?w8, ?p8, ?q8⟩
    case p8 =>
      unfold ex_Ref_other
      rw [if_neg c, if_neg c]
      rw [d1] at f
      rw [if_pos h0, if_neg (by rw [h1]; decide)]
      unfold jn_Ref_other_107q16
      rw [if_pos h0, if_neg (by rw [h1]; decide)]
      unfold jn_Ref_other_130r17
      rw [if_pos h0, if_pos h1]
      unfold jn_Ref_other_154v21
      refine (bind_eq f).trans ?_
      unfold jn_Ref_other_284
      rfl
    case q8 => rfl

theorem mo_3_114 {N : Nat} {v : Int} {s s' : RS} (h0 : s.g_desk_other 0 = 42) (h1 : s.g_desk_other 1 = 114) (h2 : s.g_desk_other 2 = iI v) (hv : -327679999 ≤ v ∧ v ≤ 327679999) (h : mRasW N s (s.g_desk_other 1) (s.g_desk_other 3) (nI (v.toNat / 10000)) (s.g_desk_other 5) = some s') : mOther N s = some s' := by
  unfold mRasW at h
  obtain ⟨r, f, e⟩ := Option.map_eq_some_iff.mp h
  subst e
  unfold mOther
  by_cases q : 0 ≤ v
  · obtain ⟨c, d1, d2⟩ := v_div h2 hv q
    refine Option.map_eq_some_iff.mpr ⟨?w9, ?p9, ?q9⟩
    case p9 =>
      unfold ex_Ref_other
      rw [if_pos c, if_pos c]
      rw [if_pos h0, if_neg (by rw [h1]; decide)]
      unfold jn_Ref_other_107c2
      rw [if_pos h0, if_neg (by rw [h1]; decide)]
      unfold jn_Ref_other_130d3
      rw [if_pos h0, if_neg (by rw [h1]; decide), if_pos h1]
      unfold jn_Ref_other_154h7
      rw [d1]
      refine (bind_eq f).trans ?_
      unfold jn_Ref_other_284
      rfl
    case q9 => rfl
  · obtain ⟨c, d1, d2⟩ := v_neg h2 hv q
    refine Option.map_eq_some_iff.mpr ⟨?w8, ?p8, ?q8⟩
    case p8 =>
      unfold ex_Ref_other
      rw [if_neg c, if_neg c]
      rw [d1] at f
      rw [if_pos h0, if_neg (by rw [h1]; decide)]
      unfold jn_Ref_other_107q16
      rw [if_pos h0, if_neg (by rw [h1]; decide)]
      unfold jn_Ref_other_130r17
      rw [if_pos h0, if_neg (by rw [h1]; decide), if_pos h1]
      unfold jn_Ref_other_154v21
      refine (bind_eq f).trans ?_
      unfold jn_Ref_other_284
      rfl
    case q8 => rfl

theorem mo_3_98 {N : Nat} {v : Int} {s s' : RS} (h0 : s.g_desk_other 0 = 42) (h1 : s.g_desk_other 1 = 98) (h2 : s.g_desk_other 2 = iI v) (hv : -327679999 ≤ v ∧ v ≤ 327679999) (h : mRasW N s (s.g_desk_other 1) (s.g_desk_other 3) (nI (v.toNat / 10000)) (s.g_desk_other 5) = some s') : mOther N s = some s' := by
  unfold mRasW at h
  obtain ⟨r, f, e⟩ := Option.map_eq_some_iff.mp h
  subst e
  unfold mOther
  by_cases q : 0 ≤ v
  · obtain ⟨c, d1, d2⟩ := v_div h2 hv q
    refine Option.map_eq_some_iff.mpr ⟨?w9, ?p9, ?q9⟩
    case p9 =>
      unfold ex_Ref_other
      rw [if_pos c, if_pos c]
      rw [if_pos h0, if_neg (by rw [h1]; decide)]
      unfold jn_Ref_other_107c2
      rw [if_pos h0, if_neg (by rw [h1]; decide)]
      unfold jn_Ref_other_130d3
      rw [if_pos h0, if_neg (by rw [h1]; decide), if_neg (by rw [h1]; decide), if_pos h1]
      unfold jn_Ref_other_154h7
      rw [d1]
      refine (bind_eq f).trans ?_
      unfold jn_Ref_other_284
      rfl
    case q9 => rfl
  · obtain ⟨c, d1, d2⟩ := v_neg h2 hv q
    refine Option.map_eq_some_iff.mpr ⟨?w8, ?p8, ?q8⟩
    case p8 =>
      unfold ex_Ref_other
      rw [if_neg c, if_neg c]
      rw [d1] at f
      rw [if_pos h0, if_neg (by rw [h1]; decide)]
      unfold jn_Ref_other_107q16
      rw [if_pos h0, if_neg (by rw [h1]; decide)]
      unfold jn_Ref_other_130r17
      rw [if_pos h0, if_neg (by rw [h1]; decide), if_neg (by rw [h1]; decide), if_pos h1]
      unfold jn_Ref_other_154v21
      refine (bind_eq f).trans ?_
      unfold jn_Ref_other_284
      rfl
    case q8 => rfl

theorem mo_5_40 {N : Nat} {v : Int} {s s' : RS} (h0 : s.g_desk_other 0 = 40) (h2 : s.g_desk_other 2 = iI v) (hv : -327679999 ≤ v ∧ v ≤ 327679999) (h : mFonW N s 0 (s.g_desk_other 1) (s.g_desk_other 3) (nI (v.toNat / 10000)) (s.g_desk_other 2) (s.g_desk_other 5) = some s') : mOther N s = some s' := by
  unfold mFonW at h
  obtain ⟨r, f, e⟩ := Option.map_eq_some_iff.mp h
  subst e
  unfold mOther
  by_cases q : 0 ≤ v
  · obtain ⟨c, d1, d2⟩ := v_div h2 hv q
    refine Option.map_eq_some_iff.mpr ⟨?w9, ?p9, ?q9⟩
    case p9 =>
      unfold ex_Ref_other
      rw [if_pos c, if_pos c]
      rw [if_neg (by rw [h0]; decide)]
      unfold jn_Ref_other_107c2
      rw [if_neg (by rw [h0]; decide)]
      unfold jn_Ref_other_130d3
      rw [if_neg (by rw [h0]; decide)]
      unfold jn_Ref_other_168e4
      rw [if_neg (by rw [h0]; decide)]
      unfold jn_Ref_other_249f5
      rw [if_pos h0]
      unfold jn_Ref_other_261g6
      rw [if_pos h0, d1]
      refine (bind_eq f).trans ?_
      unfold jn_Ref_other_284
      rfl
    case q9 => rfl
  · obtain ⟨c, d1, d2⟩ := v_neg h2 hv q
    refine Option.map_eq_some_iff.mpr ⟨?w8, ?p8, ?q8⟩
    case p8 =>
      unfold ex_Ref_other
      rw [if_neg c, if_neg c]
      rw [d1] at f
      rw [if_neg (by rw [h0]; decide)]
      unfold jn_Ref_other_107q16
      rw [if_neg (by rw [h0]; decide)]
      unfold jn_Ref_other_130r17
      rw [if_neg (by rw [h0]; decide)]
      unfold jn_Ref_other_168s18
      rw [if_neg (by rw [h0]; decide)]
      unfold jn_Ref_other_249t19
      rw [if_pos h0]
      unfold jn_Ref_other_261u20
      rw [if_pos h0]
      refine (bind_eq f).trans ?_
      unfold jn_Ref_other_284
      rfl
    case q8 => rfl

theorem mo_5_41 {N : Nat} {v : Int} {s s' : RS} (h0 : s.g_desk_other 0 = 41) (h2 : s.g_desk_other 2 = iI v) (hv : -327679999 ≤ v ∧ v ≤ 327679999) (h : mFonW N s 1 (s.g_desk_other 1) (s.g_desk_other 3) (nI (v.toNat / 10000)) (s.g_desk_other 2) (s.g_desk_other 5) = some s') : mOther N s = some s' := by
  unfold mFonW at h
  obtain ⟨r, f, e⟩ := Option.map_eq_some_iff.mp h
  subst e
  unfold mOther
  by_cases q : 0 ≤ v
  · obtain ⟨c, d1, d2⟩ := v_div h2 hv q
    refine Option.map_eq_some_iff.mpr ⟨?w9, ?p9, ?q9⟩
    case p9 =>
      unfold ex_Ref_other
      rw [if_pos c, if_pos c]
      rw [if_neg (by rw [h0]; decide)]
      unfold jn_Ref_other_107c2
      rw [if_neg (by rw [h0]; decide)]
      unfold jn_Ref_other_130d3
      rw [if_neg (by rw [h0]; decide)]
      unfold jn_Ref_other_168e4
      rw [if_neg (by rw [h0]; decide)]
      unfold jn_Ref_other_249f5
      rw [if_neg (by rw [h0]; decide), if_pos h0]
      unfold jn_Ref_other_261g6
      rw [if_neg (by rw [h0]; decide), d1]
      refine (bind_eq f).trans ?_
      unfold jn_Ref_other_284
      rfl
    case q9 => rfl
  · obtain ⟨c, d1, d2⟩ := v_neg h2 hv q
    refine Option.map_eq_some_iff.mpr ⟨?w8, ?p8, ?q8⟩
    case p8 =>
      unfold ex_Ref_other
      rw [if_neg c, if_neg c]
      rw [d1] at f
      rw [if_neg (by rw [h0]; decide)]
      unfold jn_Ref_other_107q16
      rw [if_neg (by rw [h0]; decide)]
      unfold jn_Ref_other_130r17
      rw [if_neg (by rw [h0]; decide)]
      unfold jn_Ref_other_168s18
      rw [if_neg (by rw [h0]; decide)]
      unfold jn_Ref_other_249t19
      rw [if_neg (by rw [h0]; decide), if_pos h0]
      unfold jn_Ref_other_261u20
      rw [if_neg (by rw [h0]; decide)]
      refine (bind_eq f).trans ?_
      unfold jn_Ref_other_284
      rfl
    case q8 => rfl

theorem mo_Y {N : Nat} {v : Int} {s s' : RS} (h0 : s.g_desk_other 0 = 38) (h1 : s.g_desk_other 1 = 102) (h3 : s.g_desk_other 3 = 89) (h2 : s.g_desk_other 2 = iI v) (hv : -327679999 ≤ v ∧ v ≤ 327679999) (h : s' = mXY s (fs_Ref_macroId s.o_this (nI (v.toNat / 10000))) s.g_xWhat s.g_xId) : mOther N s = some s' := by
  subst h
  unfold mOther
  by_cases q : 0 ≤ v
  · obtain ⟨c, d1, d2⟩ := v_div h2 hv q
    refine Option.map_eq_some_iff.mpr ⟨?w9, ?p9, ?q9⟩
    case p9 =>
      unfold ex_Ref_other
      rw [if_pos c, if_pos c]
      rw [if_neg (by rw [h0]; decide)]
      unfold jn_Ref_other_107c2
      rw [if_neg (by rw [h0]; decide)]
      unfold jn_Ref_other_130d3
      rw [if_neg (by rw [h0]; decide)]
      unfold jn_Ref_other_168e4
      rw [if_pos h0, if_pos h1, if_pos h3, d1]
      unfold jn_Ref_other_284
      rfl
    case q9 => rfl
  · obtain ⟨c, d1, d2⟩ := v_neg h2 hv q
    refine Option.map_eq_some_iff.mpr ⟨?w8, ?p8, ?q8⟩
    case p8 =>
      unfold ex_Ref_other
      rw [if_neg c, if_neg c]
      rw [if_neg (by rw [h0]; decide)]
      unfold jn_Ref_other_107q16
      rw [if_neg (by rw [h0]; decide)]
      unfold jn_Ref_other_130r17
      rw [if_neg (by rw [h0]; decide)]
      unfold jn_Ref_other_168s18
      rw [if_pos h0, if_pos h1, if_pos h3, ← d1]
      unfold jn_Ref_other_284
      rfl
    case q8 => rfl

theorem mo_Xf {N : Nat} {v : Int} {s s' : RS} (h0 : s.g_desk_other 0 = 38) (h1 : s.g_desk_other 1 = 102) (h3 : s.g_desk_other 3 = 88) (h8 : (8 : Int32) ≤ fd_Ref_xMany s.o_this) (h2 : s.g_desk_other 2 = iI v) (hv : -327679999 ≤ v ∧ v ≤ 327679999) (h : s' = s) : mOther N s = some s' := by
  subst h
  unfold mOther
  by_cases q : 0 ≤ v
  · obtain ⟨c, d1, d2⟩ := v_div h2 hv q
    refine Option.map_eq_some_iff.mpr ⟨?w9, ?p9, ?q9⟩
    case p9 =>
      unfold ex_Ref_other
      rw [if_pos c, if_pos c]
      rw [if_neg (by rw [h0]; decide)]
      unfold jn_Ref_other_107c2
      rw [if_neg (by rw [h0]; decide)]
      unfold jn_Ref_other_130d3
      rw [if_neg (by rw [h0]; decide)]
      unfold jn_Ref_other_168e4
      rw [if_pos h0, if_pos h1, if_neg (by rw [h3]; decide), if_pos h3, if_pos h8]
      unfold jn_Ref_other_284
      rfl
    case q9 => rfl
  · obtain ⟨c, d1, d2⟩ := v_neg h2 hv q
    refine Option.map_eq_some_iff.mpr ⟨?w8, ?p8, ?q8⟩
    case p8 =>
      unfold ex_Ref_other
      rw [if_neg c, if_neg c]
      rw [if_neg (by rw [h0]; decide)]
      unfold jn_Ref_other_107q16
      rw [if_neg (by rw [h0]; decide)]
      unfold jn_Ref_other_130r17
      rw [if_neg (by rw [h0]; decide)]
      unfold jn_Ref_other_168s18
      rw [if_pos h0, if_pos h1, if_neg (by rw [h3]; decide), if_pos h3, if_pos h8]
      unfold jn_Ref_other_284
      rfl
    case q8 => rfl

theorem mo_X {N : Nat} {v : Int} {s s' : RS} (h0 : s.g_desk_other 0 = 38) (h1 : s.g_desk_other 1 = 102) {c9 : Nat} (h3 : s.g_desk_other 3 = 88) (h8 : fd_Ref_xMany s.o_this = nI c9) (h9 : c9 < 8) (h2 : s.g_desk_other 2 = iI v) (hv : -327679999 ≤ v ∧ v ≤ 327679999) (h : s' = mXY s (fs_Ref_xMany s.o_this (fd_Ref_xMany s.o_this + 1)) (upd s.g_xWhat (fd_Ref_xMany s.o_this).toNatClampNeg (nI (v.toNat / 10000))) (upd s.g_xId (fd_Ref_xMany s.o_this).toNatClampNeg (fd_Ref_macroId s.o_this))) : mOther N s = some s' := by
  subst h
  have k1 : ¬ (8 : Int32) ≤ fd_Ref_xMany s.o_this := by rw [h8]; exact nI_ge (b := 8) h9 (by omega)
  have k2 : dk_in (fd_Ref_xMany s.o_this) 8 := by rw [h8]; exact dk_in_nI h9 (by omega)
  unfold mOther
  by_cases q : 0 ≤ v
  · obtain ⟨c, d1, d2⟩ := v_div h2 hv q
    refine Option.map_eq_some_iff.mpr ⟨?w9, ?p9, ?q9⟩
    case p9 =>
      unfold ex_Ref_other
      rw [if_pos c, if_pos c]
      rw [if_neg (by rw [h0]; decide)]
      unfold jn_Ref_other_107c2
      rw [if_neg (by rw [h0]; decide)]
      unfold jn_Ref_other_130d3
      rw [if_neg (by rw [h0]; decide)]
      unfold jn_Ref_other_168e4
      rw [if_pos h0, if_pos h1, if_neg (by rw [h3]; decide), if_pos h3, if_neg k1, if_pos k2]
      simp only [dk_let]
      rw [if_pos k2, d1]
      unfold jn_Ref_other_284
      rfl
    case q9 => rfl
  · obtain ⟨c, d1, d2⟩ := v_neg h2 hv q
    refine Option.map_eq_some_iff.mpr ⟨?w8, ?p8, ?q8⟩
    case p8 =>
      unfold ex_Ref_other
      rw [if_neg c, if_neg c]
      rw [if_neg (by rw [h0]; decide)]
      unfold jn_Ref_other_107q16
      rw [if_neg (by rw [h0]; decide)]
      unfold jn_Ref_other_130r17
      rw [if_neg (by rw [h0]; decide)]
      unfold jn_Ref_other_168s18
      rw [if_pos h0, if_pos h1, if_neg (by rw [h3]; decide), if_pos h3, if_neg k1, if_pos k2]
      simp only [dk_let]
      rw [if_pos k2, ← d1]
      unfold jn_Ref_other_284
      rfl
    case q8 => rfl

theorem mo_no4 {N : Nat} {v : Int} {s s' : RS} (h0 : s.g_desk_other 0 = 38) (h1 : s.g_desk_other 1 = 102) (h3 : ¬ s.g_desk_other 3 = 89) (h3b : ¬ s.g_desk_other 3 = 88) (h2 : s.g_desk_other 2 = iI v) (hv : -327679999 ≤ v ∧ v ≤ 327679999) (h : s' = s) : mOther N s = some s' := by
  subst h
  unfold mOther
  by_cases q : 0 ≤ v
  · obtain ⟨c, d1, d2⟩ := v_div h2 hv q
    refine Option.map_eq_some_iff.mpr ⟨?w9, ?p9, ?q9⟩
    case p9 =>
      unfold ex_Ref_other
      rw [if_pos c, if_pos c]
      rw [if_neg (by rw [h0]; decide)]
      unfold jn_Ref_other_107c2
      rw [if_neg (by rw [h0]; decide)]
      unfold jn_Ref_other_130d3
      rw [if_neg (by rw [h0]; decide)]
      unfold jn_Ref_other_168e4
      rw [if_pos h0, if_pos h1, if_neg h3, if_neg h3b]
      unfold jn_Ref_other_284
      rfl
    case q9 => rfl
  · obtain ⟨c, d1, d2⟩ := v_neg h2 hv q
    refine Option.map_eq_some_iff.mpr ⟨?w8, ?p8, ?q8⟩
    case p8 =>
      unfold ex_Ref_other
      rw [if_neg c, if_neg c]
      rw [if_neg (by rw [h0]; decide)]
      unfold jn_Ref_other_107q16
      rw [if_neg (by rw [h0]; decide)]
      unfold jn_Ref_other_130r17
      rw [if_neg (by rw [h0]; decide)]
      unfold jn_Ref_other_168s18
      rw [if_pos h0, if_pos h1, if_neg h3, if_neg h3b]
      unfold jn_Ref_other_284
      rfl
    case q8 => rfl

theorem mo_n42 {N : Nat} {v : Int} {s s' : RS} (h0 : s.g_desk_other 0 = 42) (n1 : ¬ s.g_desk_other 1 = 99) (n2 : ¬ s.g_desk_other 1 = 118) (n3 : ¬ s.g_desk_other 1 = 116) (n4 : ¬ s.g_desk_other 1 = 114) (n5 : ¬ s.g_desk_other 1 = 98) (h2 : s.g_desk_other 2 = iI v) (hv : -327679999 ≤ v ∧ v ≤ 327679999) (h : s' = s) : mOther N s = some s' := by
  subst h
  unfold mOther
  by_cases q : 0 ≤ v
  · obtain ⟨c, d1, d2⟩ := v_div h2 hv q
    refine Option.map_eq_some_iff.mpr ⟨?w9, ?p9, ?q9⟩
    case p9 =>
      unfold ex_Ref_other
      rw [if_pos c, if_pos c]
      rw [if_pos h0, if_neg n1]
      unfold jn_Ref_other_107c2
      rw [if_pos h0, if_neg n2]
      unfold jn_Ref_other_130d3
      rw [if_pos h0, if_neg n3, if_neg n4, if_neg n5]
      unfold jn_Ref_other_168e4
      rw [if_neg (by rw [h0]; decide)]
      unfold jn_Ref_other_249f5
      rw [if_neg (by rw [h0]; decide), if_neg (by rw [h0]; decide)]
      unfold jn_Ref_other_284
      rfl
    case q9 => rfl
  · obtain ⟨c, d1, d2⟩ := v_neg h2 hv q
    refine Option.map_eq_some_iff.mpr ⟨?w8, ?p8, ?q8⟩
    case p8 =>
      unfold ex_Ref_other
      rw [if_neg c, if_neg c]
      rw [if_pos h0, if_neg n1]
      unfold jn_Ref_other_107q16
      rw [if_pos h0, if_neg n2]
      unfold jn_Ref_other_130r17
      rw [if_pos h0, if_neg n3, if_neg n4, if_neg n5]
      unfold jn_Ref_other_168s18
      rw [if_neg (by rw [h0]; decide)]
      unfold jn_Ref_other_249t19
      rw [if_neg (by rw [h0]; decide), if_neg (by rw [h0]; decide)]
      unfold jn_Ref_other_284
      rfl
    case q8 => rfl

theorem mo_n38 {N : Nat} {v : Int} {s s' : RS} (h0 : s.g_desk_other 0 = 38) (n1 : ¬ s.g_desk_other 1 = 102) (h2 : s.g_desk_other 2 = iI v) (hv : -327679999 ≤ v ∧ v ≤ 327679999) (h : s' = s) : mOther N s = some s' := by
  subst h
  unfold mOther
  by_cases q : 0 ≤ v
  · obtain ⟨c, d1, d2⟩ := v_div h2 hv q
    refine Option.map_eq_some_iff.mpr ⟨?w9, ?p9, ?q9⟩
    case p9 =>
      unfold ex_Ref_other
      rw [if_pos c, if_pos c]
      rw [if_neg (by rw [h0]; decide)]
      unfold jn_Ref_other_107c2
      rw [if_neg (by rw [h0]; decide)]
      unfold jn_Ref_other_130d3
      rw [if_neg (by rw [h0]; decide)]
      unfold jn_Ref_other_168e4
      rw [if_pos h0, if_neg n1]
      unfold jn_Ref_other_249f5
      rw [if_neg (by rw [h0]; decide), if_neg (by rw [h0]; decide)]
      unfold jn_Ref_other_284
      rfl
    case q9 => rfl
  · obtain ⟨c, d1, d2⟩ := v_neg h2 hv q
    refine Option.map_eq_some_iff.mpr ⟨?w8, ?p8, ?q8⟩
    case p8 =>
      unfold ex_Ref_other
      rw [if_neg c, if_neg c]
      rw [if_neg (by rw [h0]; decide)]
      unfold jn_Ref_other_107q16
      rw [if_neg (by rw [h0]; decide)]
      unfold jn_Ref_other_130r17
      rw [if_neg (by rw [h0]; decide)]
      unfold jn_Ref_other_168s18
      rw [if_pos h0, if_neg n1]
      unfold jn_Ref_other_249t19
      rw [if_neg (by rw [h0]; decide), if_neg (by rw [h0]; decide)]
      unfold jn_Ref_other_284
      rfl
    case q8 => rfl

theorem mo_n {N : Nat} {v : Int} {s s' : RS} (a1 : ¬ s.g_desk_other 0 = 42) (a2 : ¬ s.g_desk_other 0 = 38) (a3 : ¬ s.g_desk_other 0 = 40) (a4 : ¬ s.g_desk_other 0 = 41) (h2 : s.g_desk_other 2 = iI v) (hv : -327679999 ≤ v ∧ v ≤ 327679999) (h : s' = s) : mOther N s = some s' := by
  subst h
  unfold mOther
  by_cases q : 0 ≤ v
  · obtain ⟨c, d1, d2⟩ := v_div h2 hv q
    refine Option.map_eq_some_iff.mpr ⟨?w9, ?p9, ?q9⟩
    case p9 =>
      unfold ex_Ref_other
      rw [if_pos c, if_pos c]
      rw [if_neg a1]
      unfold jn_Ref_other_107c2
      rw [if_neg a1]
      unfold jn_Ref_other_130d3
      rw [if_neg a1]
      unfold jn_Ref_other_168e4
      rw [if_neg a2]
      unfold jn_Ref_other_249f5
      rw [if_neg a3, if_neg a4]
      unfold jn_Ref_other_284
      rfl
    case q9 => rfl
  · obtain ⟨c, d1, d2⟩ := v_neg h2 hv q
    refine Option.map_eq_some_iff.mpr ⟨?w8, ?p8, ?q8⟩
    case p8 =>
      unfold ex_Ref_other
      rw [if_neg c, if_neg c]
      rw [if_neg a1]
      unfold jn_Ref_other_107q16
      rw [if_neg a1]
      unfold jn_Ref_other_130r17
      rw [if_neg a1]
      unfold jn_Ref_other_168s18
      rw [if_neg a2]
      unfold jn_Ref_other_249t19
      rw [if_neg a3, if_neg a4]
      unfold jn_Ref_other_284
      rfl
    case q8 => rfl
def mTk (m : RS) : RS := ((m.1, m.2.1, m.2.2.1, m.2.2.2.1, (fs_mDesk_stored (fs_mDesk_others (fs_mDesk_thrown m.o_desk 0) 0) 0, m.g_desk_state, m.g_desk_isKept, m.g_desk_steps, m.g_desk_store, m.g_desk_page, m.g_desk_other, m.g_desk_glyph, m.g_desk_kept), m.2.2.2.2.2.1, m.2.2.2.2.2.2.1, m.2.2.2.2.2.2.2.1, m.2.2.2.2.2.2.2.2.1, m.2.2.2.2.2.2.2.2.2) : RS)
theorem take_ok {N mm : Nat} {m : RS} (hN : 10 < N) (hm : mm ≤ 4096) (h1 : fd_mDesk_others m.o_desk = 1) (h2 : fd_mDesk_stored m.o_desk = nI mm) (h5 : m.g_desk_other 5 = nI mm) (h6 : m.g_desk_other 6 = 0) : mTake N m = some (mTk m, 1) := by
  obtain ⟨z, rfl⟩ : ∃ z, N = z + 1 := ⟨N - 1, by omega⟩
  unfold mTake
  refine Option.map_eq_some_iff.mpr ⟨(fs_mDesk_stored (fs_mDesk_others (fs_mDesk_thrown m.o_desk 0) 0) 0, m.g_desk_other, m.g_desk_store, 1), ?_, rfl⟩
  unfold ex_mDesk_take
  rw [if_neg (by rw [h1]; decide), if_pos (by rw [h6]; decide), lp_mDesk_take_33, if_pos (by rw [h2, h5]; exact nI_le (Nat.le_refl _) (by omega))]
  simp only [Option.bind_some]
  rw [lp_mDesk_take_83c2, if_pos (by rw [h1]; decide)]
  simp only [Option.bind_some]
  rw [h1, h2, h5, show (1 : Int32) - 1 = 0 by decide, Int32.sub_self]
def cCx (N d k r cp T : Nat) (p : Nat → Nat) (s : CS) (m : RS) : Prop := cPg d k r cp p s m ∧ cSh T d k r s m ∧ cFo N s m ∧ cRa d T s m ∧ cMa T s m ∧ cFl s m ∧ cFa s m ∧ cIt s
/-- a command that is handed on -/
theorem st_O {N d k r cp k' r' cp' T lv a z b i f gr mm : Nat} {p p' : Nat → Nat} {la : Bool} {s x : CS} {m m2 m3 : RS} {lm : Nat → Int32} {own gl : Int32} {o' : ob_Parser} {gd' : Nat → Int32} {om' : ob_mDesk} {g' go' gs' : Nat → Int32} (hN : 2 ^ 22 < N) (hC : cCo N d k r cp T p s m) (hL : lvB lv a z b s) (hpre : mByte N m (nI b) = (mIsSeq N (mAdvd m lm i own)).bind (fun was => (mDesk N (mAdvd m lm i own) (nI b)).bind (fun s2 => mPost N (mAdvd m lm i own) s2 gl was)))
    (ht : ex_Parser_take N s.o_interpreter_parser s.g_interpreter_parser_data (nI b) = some (o', gd', evM la)) (hf : f < 256) (hg : gr < 256) (c1 : fd_Parser_family o' = nI f) (c2 : fd_Parser_group o' = nI gr)
    (hdk : ex_mDesk_comes N (fs_mDesk_thrown m.o_desk 0) m.g_desk_state m.g_desk_page (upd m.g_desk_steps i own) m.g_desk_glyph m.g_desk_other m.g_desk_store (nI b) = some (om', g', m.g_desk_page, m.g_desk_glyph, go', gs')) (hm2 : m2 = mDk (mAdvd m lm i own) (om', g', m.g_desk_page, m.g_desk_glyph, go', gs')) (hQ : dkQ m.o_desk om') (hM : dkM k r cp p om' g') (hcm : fd_mDesk_came om' = 0) (hot : fd_mDesk_others om' = 1) (hsto : fd_mDesk_stored om' = nI mm) (hmm : mm ≤ 4096) (h5 : go' 5 = nI mm) (h6 : go' 6 = 0) (hph : fd_mDesk_phase om' = (if la then 0 else 3)) (hG : psG f gr o' om') (hFm : fldM 0 0 0 0 0 om') (t10 : fldC 0 0 0 0 0 o') (t11 : fd_Parser_mode o' = (if la then 0 else 3)) (t18 : ¬ fd_mDesk_phase m.o_desk ≤ 1)
    (hx : kDo N (kPut s (upd s.g_interpreter_at lv (nI (a + 1))) o' gd') (nI (256 * f + gr)) = some x) (hmo : mOther N m2 = some m3) (hrel : cCx N d k' r' cp' (T + 4) p' x m3) (hsd : cSd x m3) (hdF : dkF om' m3.o_desk) (hcm3 : fd_mDesk_came m3.o_desk = 0) (hgo : m3.g_desk_other = go') (hpx : x.o_interpreter_parser = o' ∧ x.g_interpreter_parser_data = gd') (hrf : rfM m m3) (hkf : kfG s x) (hlf : lvF lv a s x) (hac : acS s x) : bR N d T lv a b s m := by
  obtain ⟨hPg, hSh, hFo, hKn, hRa, hMa, hFl, hFa, hIt⟩ := hC
  obtain ⟨pd, pk, pr, pcp, pp, pok, pst, pdk, pd1, pd2⟩ := hPg
  obtain ⟨xPg, xSh, xFo, xRa, xMa, xFl, xFa, xIt⟩ := hrel
  have hL0 := hL
  obtain ⟨l1, l2, l3, l4, l5, l6, l7, l8, l9⟩ := hL
  have kn := kn_byte (N := N) l1 l2 l3 l4 l5 l6 l7 l8 l9 ht
  rw [if_pos (evM_16 la)] at kn
  have xl : fd_Interpreter_level x.o_interpreter = nI lv := hlf.2.2.2.2.2.trans l1
  have ha := ka_cmd (N := N) (lv := lv) la hf hg (show fd_Parser_family (kPut s (upd s.g_interpreter_at lv (nI (a + 1))) o' gd').o_interpreter_parser = nI f from c1) c2 hx xl l2
  have hSh2 : cSh T d k r s m2 := by rw [hm2]; exact cSh_Q hSh hQ rfl rfl rfl rfl
  have hme : mMeasure N m2 = some m2 := by
    obtain ⟨sd, q1, q2⟩ := hSh2.2.2.1
    exact mm_same pd pk (sh_M q1) (by rw [hm2]; exact hM) (by rw [hm2]; exact pd2)
  obtain ⟨m4, hm4⟩ : ∃ m4, m4 = mTk m3 := ⟨_, rfl⟩
  have h3o : fd_mDesk_others m3.o_desk = 1 := hdF.2.2.2.2.2.2.2.2.2.2.2.2.1.trans hot
  have h3s : fd_mDesk_stored m3.o_desk = nI mm := hdF.2.2.2.2.2.2.2.2.2.2.2.2.2.trans hsto
  have htk : mTake N m3 = some (m4, 1) := by rw [hm4]; exact take_ok (by omega) hmm h3o h3s (by rw [hgo]; exact h5) (by rw [hgo]; exact h6)
  have hOt : mOthers N N m2 = some m4 := by
    obtain ⟨z, rfl⟩ : ∃ z, N = z + 2 := ⟨N - 2, by omega⟩
    have h2o : fd_mDesk_others m2.o_desk = 1 := by rw [hm2]; exact hot
    have h26 : m2.g_desk_other 6 = 0 := by rw [hm2]; exact h6
    rw [mOthers, if_neg (by rw [h2o]; decide), if_pos h26]
    refine (bind_eq hmo).trans ?_
    refine (bind_eq htk).trans ?_
    show mOthers _ (z + 1) m4 = some m4
    rw [mOthers, if_pos (show fd_mDesk_others m4.o_desk ≤ 0 by rw [hm4]; show (0 : Int32) ≤ 0; decide)]
  have hTl : mTail N m2 gl = some m4 := by
    unfold mTail
    refine (bind_eq hme).trans ?_
    rw [if_pos (show fd_mDesk_came m2.o_desk = 0 by rw [hm2]; exact hcm)]
    exact hOt
  have ph4 : fd_mDesk_phase m4.o_desk = (if la then 0 else 3) := by rw [hm4]; exact hdF.1.trans hph
  have hEn : mEnd N m2 gl (nI (decide (¬ fd_mDesk_phase (mAdvd m lm i own).o_desk ≤ 1)).toNat) = some (m4, la) := by
    unfold mEnd
    refine (bind_eq hTl).trans ?_
    rw [show decide (¬ fd_mDesk_phase (mAdvd m lm i own).o_desk ≤ 1) = true from decide_eq_true t18, if_neg (show ¬ nI true.toNat = 0 by decide)]
    refine (bind_eq is_seq).trans ?_
    rw [ph4]
    cases la <;> rfl
  have hby : mByte N m (nI b) = some (m4, la) := by
    rw [hpre]
    refine (bind_eq is_seq).trans ?_
    have hdk' : mDesk N (mAdvd m lm i own) (nI b) = some m2 := by
      rw [hm2]; unfold mDesk
      exact Option.map_eq_some_iff.mpr ⟨_, hdk, rfl⟩
    refine (bind_eq hdk').trans ?_
    unfold mPost
    rw [if_pos (show fd_mDesk_pages m2.o_desk ≤ fd_mDesk_pages (mAdvd m lm i own).o_desk by rw [hm2]; exact Int32.le_of_eq hQ.2.2.2.2.2.2.2.2)]
    exact hEn
  obtain ⟨s2, hs2⟩ : ∃ s2, s2 = if la then kTk x lv else x := ⟨_, rfl⟩
  rw [← hs2] at ha
  have hfo2 : cFo N s2 m4 := by rw [hm4, hs2]; cases la <;> exact xFo
  obtain ⟨oF, ch, lf, r1, r2, r3⟩ := step_n (N := N) (m := m4) (by omega) kn ha hFa.1 hfo2 (by rw [hs2]; cases la <;> exact xIt.1) (by rw [hs2]; cases la <;> exact xIt.2)
  have hdm4 : dkQ m3.o_desk m4.o_desk := by rw [hm4]; exact ⟨rfl, rfl, rfl, rfl, rfl, rfl, rfl, rfl, rfl⟩
  have hps : psR o' gd' m4.o_desk m4.g_desk_other m4.g_desk_store := by
    refine ps_after (f := f) (gr := gr) t11 ph4 (by rw [hm4]; exact ⟨rfl, rfl⟩) ?_ t10 ?_
    · obtain ⟨b1, b2, b3, b4, b5, b6⟩ := hG
      rw [hm4]; exact ⟨b1, b2, b3, hdF.2.1.trans b4, b5, hdF.2.2.1.trans b6⟩
    · obtain ⟨y1, y2, y3, y4, y5, y6⟩ := hFm
      obtain ⟨w1, w2, w3, w4, w5, w6, w7, w8, w9, w10, w11, w12, w13, w14⟩ := hdF
      rw [hm4]; exact ⟨w4.trans y1, w5.trans y2, w6.trans y3, w7.trans y4, w8.trans y5, w9.trans y6⟩
  refine ⟨kFo s2 oF ch lf, m4, la, kRun.one hFa.1 (more_ok hL0) r1, hby, Or.inl ⟨⟨k', r', cp', p', ?_⟩, ?_, ?_, ?_, ?_, ?_⟩⟩
  · have xSh4 : cSh (T + 4) d k' r' x m4 := by rw [hm4]; exact cSh_Q xSh ⟨rfl, rfl, rfl, rfl, rfl, rfl, rfl, rfl, rfl⟩ rfl rfl rfl rfl
    obtain ⟨v1, v2, v3, v4, v5, v6, v7, v8, v9, v10⟩ := xPg
    rw [hm4] at xSh4 r2 ⊢
    rw [hs2] at r2 ⊢
    cases la
    · exact ⟨⟨v1, v2, v3, v4, v5, v6, v7, v8, v9, v10⟩, xSh4, r2, r3, xRa, xMa, xFl, xFa, xIt⟩
    · exact ⟨⟨v1, v2, v3, v4, v5, v6, v7, v8, v9, v10⟩, xSh4, r2, r3, xRa, xMa, xFl, xFa, xIt⟩
  · rw [hs2]
    unfold cPs
    have e1 : CS.o_interpreter_parser (kFo (if la = true then kTk x lv else x) oF ch lf) = o' := by rw [← hpx.1]; cases la <;> rfl
    have e2 : CS.g_interpreter_parser_data (kFo (if la = true then kTk x lv else x) oF ch lf) = gd' := by rw [← hpx.2]; cases la <;> rfl
    rw [e1, e2]; exact hps
  · rw [hs2]; cases la <;> exact hlf
  · rw [hs2]; cases la <;> exact hkf
  · rw [hs2]
    cases la with
    | false => exact ⟨fun _ => ⟨hac, by rw [hm4]; exact hsd⟩, fun h => absurd h (by decide)⟩
    | true =>
      refine ⟨fun h => absurd h (by decide), fun _ => ?_⟩
      have := tk_acts (lv := lv) (s := x) (m := m4) l2 (by rw [hm4]; exact hsd)
      obtain ⟨c, d1, d2, d3, d4, d5, d6, d7⟩ := this
      obtain ⟨a1, a2, a3, a4⟩ := hac
      exact ⟨c, d1, by rw [← a3]; exact d2, by rw [← a4]; exact d3, d4, d5, d6, fun i hi => by rw [← a1, ← a2]; exact d7 i hi⟩
  · rw [hm4]; exact hrf
def itS (s x : CS) : Prop := x.o_interpreter = s.o_interpreter ∧ x.o_interpreter_parser = s.o_interpreter_parser ∧ x.g_interpreter_at = s.g_interpreter_at ∧ x.g_interpreter_ends = s.g_interpreter_ends ∧ x.g_interpreter_actCount = s.g_interpreter_actCount ∧ x.g_interpreter_actNext = s.g_interpreter_actNext ∧ x.g_interpreter_copies = s.g_interpreter_copies ∧ x.g_interpreter_called = s.g_interpreter_called ∧ x.g_interpreter_acts = s.g_interpreter_acts ∧ x.g_interpreter_actIds = s.g_interpreter_actIds ∧ x.g_interpreter_parser_data = s.g_interpreter_parser_data ∧ x.g_page_kept = s.g_page_kept
theorem itS_refl (s : CS) : itS s s := ⟨rfl, rfl, rfl, rfl, rfl, rfl, rfl, rfl, rfl, rfl, rfl, rfl⟩
def kSh (s : CS) (o : ob_Sheet) : CS := ((s.1, s.2.1, s.2.2.1, s.2.2.2.1, s.2.2.2.2.1, (o, s.g_sheet_marks, s.g_sheet_dots, s.n_sheet_band, s.g_sheet_band), s.2.2.2.2.2.2.1, s.2.2.2.2.2.2.2.1, s.2.2.2.2.2.2.2.2.1, s.2.2.2.2.2.2.2.2.2.1, s.2.2.2.2.2.2.2.2.2.2.1, s.2.2.2.2.2.2.2.2.2.2.2) : CS)
def mSh (m : RS) (o : ob_mSheet) : RS := ((m.1, m.2.1, m.2.2.1, (o, m.n_sheet_dots, m.g_sheet_dots), m.2.2.2.2.1, m.2.2.2.2.2.1, m.2.2.2.2.2.2.1, m.2.2.2.2.2.2.2.1, m.2.2.2.2.2.2.2.2.1, m.2.2.2.2.2.2.2.2.2) : RS)
def oR (N d T K : Nat) (s : CS) (m : RS) : Prop := ∃ x m3 k r cp p, kDo N s (nI K) = some x ∧ mOther N m = some m3 ∧ cCx N d k r cp (T + 4) p x m3 ∧ cSd x m3 ∧ dkF m.o_desk m3.o_desk ∧ fd_mDesk_came m3.o_desk = 0 ∧ m3.g_desk_other = m.g_desk_other ∧ itS s x ∧ rfM m m3 ∧ kfG s x
/-- a command with its numbers, on both sides -/
def oH (N d k r cp T f gr e mm : Nat) (v : Int) (p : Nat → Nat) (s : CS) (m : RS) : Prop := cCx N d k r cp T p s m ∧ cSd s m ∧ fd_mDesk_came m.o_desk = 0 ∧ (f < 256 ∧ gr < 256 ∧ e < 256 ∧ mm ≤ 4096 ∧ -327679999 ≤ v ∧ v ≤ 327679999) ∧ fd_Parser_end s.o_interpreter_parser = nI e ∧ fd_Parser_value s.o_interpreter_parser = iI v ∧ fd_Parser_dataCount s.o_interpreter_parser = nI mm ∧ dtR mm s.g_interpreter_parser_data m.g_desk_store ∧ m.g_desk_other 0 = nI f ∧ m.g_desk_other 1 = nI gr ∧ m.g_desk_other 2 = iI v ∧ m.g_desk_other 3 = nI e ∧ m.g_desk_other 5 = nI mm
theorem cCx_mono {N d k r cp T T' : Nat} {p : Nat → Nat} {s : CS} {m : RS} (hT : T ≤ T') (h : cCx N d k r cp T p s m) : cCx N d k r cp T' p s m := by
  obtain ⟨h1, h2, h3, h5, h6, h7, h8, h9⟩ := h
  exact ⟨h1, ⟨h2.1.mono hT, h2.2⟩, h3, rsR_mono hT h5, ⟨mcS_mono hT h6.1, h6.2⟩, h7, h8, h9⟩
theorem oc_id {N d k r cp T f gr e mm K : Nat} {v : Int} {p : Nat → Nat} {s : CS} {m : RS} (h : oH N d k r cp T f gr e mm v p s m) (h1 : kDo N s (nI K) = some s) (h2 : mOther N m = some m) : oR N d T K s m :=
  ⟨s, m, k, r, cp, p, h1, h2, cCx_mono (by omega) h.1, h.2.1, dkF.refl _, h.2.2.1, rfl, itS_refl s, rfM_refl m, kfG_refl s⟩
theorem so_count {N : Nat} {o o' : ob_Sheet} {v : Int32} (h : ex_Sheet_setSourceOpaque N o v = some o') : fd_Sheet_count o' = fd_Sheet_count o := by
  unfold ex_Sheet_setSourceOpaque at h
  by_cases q1 : v = 1
  · rw [if_pos q1] at h; rw [← Option.some.inj h]
  rw [if_neg q1] at h
  by_cases q2 : v = 0
  · rw [if_pos q2] at h; rw [← Option.some.inj h]
  rw [if_neg q2] at h
  by_cases q3 : fd_Sheet_sourceOpaque o = 0
  · rw [if_pos q3] at h; rw [← Option.some.inj h]
  · rw [if_neg q3] at h; rw [← Option.some.inj h]
theorem io_count {N : Nat} {o o' : ob_Sheet} {v : Int32} (h : ex_Sheet_setInkOpaque N o v = some o') : fd_Sheet_count o' = fd_Sheet_count o := by
  unfold ex_Sheet_setInkOpaque at h
  by_cases q1 : v = 1
  · rw [if_pos q1] at h; rw [← Option.some.inj h]
  rw [if_neg q1] at h
  by_cases q2 : v = 0
  · rw [if_pos q2] at h; rw [← Option.some.inj h]
  rw [if_neg q2] at h
  by_cases q3 : fd_Sheet_inkOpaque o = 0
  · rw [if_pos q3] at h; rw [← Option.some.inj h]
  · rw [if_neg q3] at h; rw [← Option.some.inj h]
theorem si_count {N : Nat} {o o' : ob_Sheet} {v : Int32} (h : ex_Sheet_setInk N o v = some o') : fd_Sheet_count o' = fd_Sheet_count o := by
  unfold ex_Sheet_setInk at h
  obtain ⟨u, _, h⟩ := Option.bind_eq_some_iff.mp h
  by_cases q : u = 0
  · rw [if_pos q] at h; rw [← Option.some.inj h]
  · rw [if_neg q] at h; rw [← Option.some.inj h]
theorem di_count {N : Nat} {oi : ob_Interpreter} {o o' : ob_Sheet} {a b : Int32} (h : ex_Interpreter_doInk N oi o a b = some o') : fd_Sheet_count o' = fd_Sheet_count o := by
  unfold ex_Interpreter_doInk at h
  by_cases q1 : a = 78
  · rw [if_pos q1] at h
    obtain ⟨u, hu, h⟩ := Option.bind_eq_some_iff.mp h
    rw [← Option.some.inj h]; exact so_count hu
  rw [if_neg q1] at h
  by_cases q2 : a = 79
  · rw [if_pos q2] at h
    obtain ⟨u, hu, h⟩ := Option.bind_eq_some_iff.mp h
    rw [← Option.some.inj h]; exact io_count hu
  rw [if_neg q2] at h
  by_cases q3 : a = 84
  · rw [if_pos q3] at h
    obtain ⟨u, hu, h⟩ := Option.bind_eq_some_iff.mp h
    rw [← Option.some.inj h]; exact si_count hu
  · rw [if_neg q3] at h; rw [← Option.some.inj h]
/-- the marks of both sides are as many -/
theorem sh_cnt {k r d sd nd : Nat} {o : ob_Sheet} {os : ob_mSheet} {gmk gd : Nat → Int32} {b : Nat → Int64} (h : shR k r d o os gmk gd b sd nd) : fd_mSheet_marks os = fd_Sheet_count o := by
  obtain ⟨n, u, kd, nu, io, so, mk, h1, h2, h3, h4, h5, h6, h7, h8⟩ := h
  rw [h3, h1]
theorem oc_ink {N d k r cp T e mm : Nat} {v : Int} {p : Nat → Nat} {s : CS} {m : RS} (h : oH N d k r cp T 42 118 e mm v p s m) : oR N d T 10870 s m := by
  obtain ⟨⟨hPg, hSh, hFo, hRa, hMa, hFl, hFa, hIt⟩, hSd, hcm, ⟨bf, bg, be, bm, bv1, bv2⟩, c1, c2, c3, hdt, y0, y1, y2, y3, y5⟩ := h
  obtain ⟨n1, n2⟩ := ps_num (N := N) c2 ⟨bv1, bv2⟩
  have hn : v.toNat / 10000 ≤ 32767 := by omega
  obtain ⟨a1, a2, ⟨sd, q1, q2⟩, a4, a5, ⟨x, y, z, hru⟩⟩ := hSh
  obtain ⟨o', os', e1, e2, e3, e4, e5⟩ := sh_ink (N := N) (oi := s.o_interpreter) q1 hru be hn
  refine ⟨kSh s o', mSh m os', k, r, cp, p, ?_, ?_, ⟨hPg, ⟨a1.mono (by omega), ?_, ⟨sd, e3, q2⟩, ?_, ?_, ?_⟩, hFo, rsR_mono (by omega) hRa, ⟨mcS_mono (by omega) hMa.1, hMa.2⟩, hFl, hFa, hIt⟩, hSd, dkF.refl _, hcm, rfl, itS_refl s, rfM_refl m, kfG_refl s⟩
  · rw [kd_10870]
    refine (bind_eq n1).trans ?_
    unfold kInk
    refine Option.map_eq_some_iff.mpr ⟨o', ?_, rfl⟩
    rw [c1]; exact e1
  · refine mo_2 y0 y1 y2 ⟨bv1, bv2⟩ ?_
    unfold mInkW
    refine Option.map_eq_some_iff.mpr ⟨os', ?_, rfl⟩
    rw [y3]; exact e2
  · show fd_Sheet_due o' = _; rw [e5]; exact a2
  · intro hd
    show fd_mSheet_marks os' = 0
    rw [sh_cnt e3, di_count e1, ← sh_cnt q1]; exact a4 hd
  · obtain ⟨⟨BL, b1, b2, b3, b4⟩, b5, b6⟩ := a5
    exact ⟨⟨BL, e4.1.trans b1, b2, b3, b4⟩, b5, b6⟩
  · exact ⟨x, y, z, e4.2.1.trans hru.1, hru.2.1, e4.2.2.1.trans hru.2.2.1, hru.2.2.2.1, e4.2.2.2.trans hru.2.2.2.2.1, hru.2.2.2.2.2⟩
theorem ly_rule2 {N k r d sd nd X Y n rw_ rh pt : Nat} {o : ob_Sheet} {os : ob_mSheet} {op : ob_Page} {od : ob_mDesk} {or : ob_Ref} {gmk gd gS : Nat → Int32} {b : Nat → Int64} (hN : 2 ^ 22 < N) (hk : k < 5) (hr : r < 4) (hd : isDpi d) (h : shR k r d o os gmk gd b sd nd) (hru : ruR o or rw_ rh pt) (p1 : fd_Page_size op = nI k) (p2 : fd_Page_orientation op = nI r) (p3 : fd_Page_dpi op = nI d) (p4 : fd_Page_x op = nI X) (p5 : fd_Page_y op = nI Y) (q1 : fd_mDesk_orientation od = nI r) (q2 : fd_Ref_dpi or = nI d) (g0 : gS 0 = nI X) (g1 : gS 1 = nI Y) (hX : X ≤ 122400) (hY : Y ≤ 122400) (hn : n ≤ 32767) :
    ∃ o' gmk' os' b' od', ex_Sheet_layRule N o op gmk (nI n) = some (o', gmk') ∧ ex_Ref_rule N or od os gS nd b (nI n) = some (od', os', b') ∧ shR k r d o' os' gmk' gd b' sd nd ∧ shF o o' ∧ ((od' = od ∧ o' = o ∧ os' = os) ∨ (od' = dueO od ∧ fd_Sheet_due o' = 1)) := by
  have h' := h
  obtain ⟨n_, u, ikd, inu, io, so, mk, c1, c2, c3, c4, c5, c6, hik, hmd⟩ := h'
  obtain ⟨i1, i2, i3, i4, i5, i6, i7, i8, i9, i10, i11, i12⟩ := hik
  have hru' := hru
  obtain ⟨u1, u2, u3, u4, u5, u6, u7, u8, u9⟩ := hru'
  have hd3 : d ≤ 300 := by rcases hd with rfl | rfl | rfl <;> omega
  have hwb := rl_bound hd3 u7
  have hhb := rl_bound hd3 u8
  have hy7 := rl_ref (d := d) hd3 u7
  have hy8 := rl_ref (d := d) hd3 u8
  have z7 : lg_cmp (lI ((rlN d rw_ : Nat) : Int)) 0 = 0 ↔ ((rlN d rw_ : Nat) : Int) = 0 := lcmp_eq (b := 0) (by omega) (by omega)
  have z8 : lg_cmp (lI ((rlN d rh : Nat) : Int)) 0 = 0 ↔ ((rlN d rh : Nat) : Int) = 0 := lcmp_eq (b := 0) (by omega) (by omega)
  -- nothing is laid
  have none_ : ∃ o' gmk' os' b' od', some (o, gmk) = some (o', gmk') ∧ some (od, os, b) = some (od', os', b') ∧ shR k r d o' os' gmk' gd b' sd nd ∧ shF o o' ∧ ((od' = od ∧ o' = o ∧ os' = os) ∨ (od' = dueO od ∧ fd_Sheet_due o' = 1)) := ⟨o, gmk, os, b, od, rfl, rfl, h, ⟨rfl, rfl, rfl, rfl⟩, Or.inl ⟨rfl, rfl, rfl⟩⟩
  have ref0 : ∀ (n2 : Int32) (s1 s2 : Int32), jn_Ref_rule_68d3 N or od os gS nd b n2 s1 s2 0 = some (od, os, b) := by
    intro n2 s1 s2; unfold jn_Ref_rule_68d3 jn_Ref_rule_131i8; simp only [dk_let, if_true]
  have refz : (rlN d rw_ = 0 ∨ rlN d rh = 0) → ∀ (n2 : Int32) (s1 s2 : Int32), jn_Ref_rule_68d3 N or od os gS nd b n2 s1 s2 1 = some (od, os, b) := by
    intro hz n2 s1 s2
    unfold jn_Ref_rule_68d3 jn_Ref_rule_131i8
    simp only [dk_let]
    rw [u2, u4, q2, if_neg (show ¬ (1 : Int32) = 0 by decide), hy7, hy8]
    by_cases a : rlN d rw_ = 0
    · rw [if_pos (z7.mpr (by omega))]
    · rw [if_neg (mt z7.mp (by omega)), if_pos (z8.mpr (by omega))]
  -- the class, by its kind
  have cls : ∀ (kk : Nat) (nn : Int32) (ik : Bool), ex_Sheet_isInk N (nI kk) nn = some (nI ik.toNat) → (0 < rlN d rw_ ∧ 0 < rlN d rh ∧ ik = true → ∀ io' : Bool, (nI io'.toNat = if nI n = 1 then 1 else fd_mSheet_inkOpaque os) → jn_Sheet_layRule_49c2 N o op gmk (nI n) (nI (rlN d rw_)) (nI (rlN d rh)) (nI kk) nn = jn_Sheet_layRule_92e4 N o op gmk (nI kk) nn (nI (rlN d rw_)) (nI (rlN d rh)) (nI io'.toNat)) ∧ (¬ (0 < rlN d rw_ ∧ 0 < rlN d rh ∧ ik = true) → jn_Sheet_layRule_49c2 N o op gmk (nI n) (nI (rlN d rw_)) (nI (rlN d rh)) (nI kk) nn = some (o, gmk)) := by
    intro kk nn ik hik
    unfold jn_Sheet_layRule_49c2 jn_Sheet_layRule_69d3 jn_Sheet_layRule_87g6
    rw [hik]
    simp only [Option.bind_some]
    constructor
    · intro hq io' hio'
      rw [if_neg (show ¬ nI (rlN d rw_) = 0 from nI_ne0 hq.1 (by omega)), if_neg (show ¬ nI (rlN d rh) = 0 from nI_ne0 hq.2.1 (by omega)), hq.2.2, if_neg (show ¬ nI (true).toNat = 0 by decide), i9]
      by_cases q : nI n = 1
      · rw [if_pos q] at hio'
        rw [if_pos q, hio', ite_self]
      · rw [if_neg q, i10] at hio'
        rw [if_neg q, hio']
        cases io with
        | false => rw [if_pos (show nI (false).toNat = 0 from rfl)]; rfl
        | true => rw [if_neg (show ¬ nI (true).toNat = 0 by decide)]; rfl
    · intro hq
      by_cases a : rlN d rw_ = 0
      · rw [if_pos (show nI (rlN d rw_) = 0 by rw [a]; rfl)]
      · rw [if_neg (show ¬ nI (rlN d rw_) = 0 from nI_ne0 (by omega) (by omega))]
        by_cases a2 : rlN d rh = 0
        · rw [if_pos (show nI (rlN d rh) = 0 by rw [a2]; rfl)]
        · rw [if_neg (show ¬ nI (rlN d rh) = 0 from nI_ne0 (by omega) (by omega))]
          have : ik = false := by
            cases ik with
            | false => rfl
            | true => exact absurd ⟨by omega, by omega, rfl⟩ hq
          rw [this, if_pos (show nI (false).toNat = 0 from rfl)]
  obtain ⟨io', hio'⟩ : ∃ io' : Bool, nI io'.toNat = if nI n = 1 then 1 else fd_mSheet_inkOpaque os := by
    by_cases q : nI n = 1
    · rw [if_pos q]; exact ⟨true, rfl⟩
    · rw [if_neg q]; exact ⟨io, i10.symm⟩
  have go : ∀ (kk nu : Nat) (nn : Int32) (ik : Bool), kk < 4 → nu < 128 → (kk = 3 → 0 < nu ∧ nu < 7) → (2 ≤ kk → nn = nI nu) → ex_Sheet_isInk N (nI kk) nn = some (nI ik.toNat) → ik = true → ∃ o' gmk' os' b' od', jn_Sheet_layRule_49c2 N o op gmk (nI n) (nI (rlN d rw_)) (nI (rlN d rh)) (nI kk) nn = some (o', gmk') ∧ jn_Ref_rule_68d3 N or od os gS nd b (nI n) (nI kk) (nI nu) 1 = some (od', os', b') ∧ shR k r d o' os' gmk' gd b' sd nd ∧ shF o o' ∧ ((od' = od ∧ o' = o ∧ os' = os) ∨ (od' = dueO od ∧ fd_Sheet_due o' = 1)) := by
    intro kk nu nn ik h4 hnu hk3 hnn hik ht
    obtain ⟨cl1, cl2⟩ := cls kk nn ik hik
    by_cases q : 0 < rlN d rw_ ∧ 0 < rlN d rh
    · rw [cl1 ⟨q.1, q.2, ht⟩ io' hio']
      obtain ⟨o', gmk', os', b', f1, f2, f3, f4, f5⟩ := ly_rule1 (N := N) (n := n) (kd := kk) (nu := nu) (nn := nn) (gS := gS) (gd := gd) hN hk hr hd h hru p1 p2 p3 p4 p5 q1 q2 g0 g1 hX hY hn h4 hnu hk3 hnn q.1 q.2 io' hio'
      exact ⟨o', gmk', os', b', dueO od, f1, f2, f3, f5, Or.inr ⟨rfl, f4⟩⟩
    · rw [cl2 (fun hh => q ⟨hh.1, hh.2.1⟩), refz (by omega)]
      exact none_
  unfold ex_Sheet_layRule ex_Ref_rule jn_Sheet_layRule_31 jn_Ref_rule_16 jn_Ref_rule_36c2 jn_Ref_rule_63p15 jn_Ref_rule_67q16
  rw [u1, u3, rl_dots hd3 u7 p3, rl_dots hd3 u8 p3]
  simp only [Option.bind_some]
  by_cases q5 : n = 5
  · subst q5
    simp only [if_pos (show nI 5 = 5 from rfl), if_neg (show ¬ nI 5 < 2 by decide)]
    rw [i1, i2, i5]
    have hik : ex_Sheet_isInk N (nI ikd) (fd_Sheet_inkNumber o) = some (nI (true).toNat) := by
      by_cases q2 : 2 ≤ ikd
      · rw [i4 q2, sh_isInk (by omega) (by omega)]
        have : isIk ikd inu = true := by
          unfold isIk
          by_cases z : ikd = 2
          · have := i6 z; rw [decide_eq_true z, decide_eq_true this]; simp
          · have z3 : ikd = 3 := by omega
            have := i7 z3; rw [decide_eq_true z3, decide_eq_true (show 1 ≤ inu ∧ inu ≤ 6 by omega)]; simp
        rw [this]
      · have : ikd = 0 ∨ ikd = 1 := by omega
        rcases this with rfl | rfl <;> rfl
    exact go ikd inu (fd_Sheet_inkNumber o) true i3 i8 i7 i4 hik rfl
  · have n5 : ¬ nI n = 5 := mt (nI_eq (b := 5) (by omega) (by omega)).mp q5
    simp only [if_neg n5]
    rw [u5, u6]
    have hik := sh_isInk (N := N) hn u9
    by_cases q2 : n < 2
    · rw [if_pos (show nI n < 2 from nI_lt (b := 2) q2 (by omega))]
      have ht : isIk n pt = true := by unfold isIk; rw [decide_eq_true q2]; rfl
      -- the number doesn't count
      obtain ⟨o', gmk', os', b', od', f1, f2, f3, f4, f5⟩ := go n 0 (nI pt) (isIk n pt) (by omega) (by omega) (fun hq => absurd hq (by omega)) (fun hq => absurd hq (by omega)) hik ht
      exact ⟨o', gmk', os', b', od', f1, (rule_n2 q2 _ _).trans f2, f3, f4, f5⟩
    · rw [if_neg (show ¬ nI n < 2 from nI_nlt (b := 2) (by omega) (by omega))]
      by_cases q4 : 4 ≤ n
      · rw [if_pos (show (4 : Int32) ≤ nI n from nI_le (a := 4) q4 (by omega)), ref0]
        have hf : isIk n pt = false := by unfold isIk; rw [decide_eq_false (show ¬ n < 2 by omega), decide_eq_false (show ¬ n = 2 by omega), decide_eq_false (show ¬ n = 3 by omega)]; rfl
        rw [(cls n (nI pt) (isIk n pt) hik).2 (fun hh => by rw [hf] at hh; exact absurd hh.2.2 (by decide))]
        exact none_
      · rw [if_neg (show ¬ (4 : Int32) ≤ nI n from nI_ge (b := 4) (by omega) (by omega)), rf_pat (by omega) u9]
        simp only [Option.bind_some]
        cases ht : isIk n pt with
        | false =>
          rw [if_pos (show nI (false).toNat = 0 from rfl), ref0]
          rw [(cls n (nI pt) (isIk n pt) hik).2 (fun hh => by rw [ht] at hh; exact absurd hh.2.2 (by decide))]
          exact none_
        | true =>
          rw [if_neg (show ¬ nI (true).toNat = 0 by decide)]
          have hb : pt ≤ 100 ∧ (n = 3 → 0 < pt ∧ pt < 7) := by
            unfold isIk at ht; rw [decide_eq_false q2] at ht; simp at ht; omega
          exact go n pt (nI pt) (isIk n pt) (by omega) (by omega) hb.2 (fun _ => rfl) hik ht
theorem ras_b2 {N d k r cp T e n m sd nd : Nat} {p : Nat → Nat} {oi : ob_Interpreter} {oP : ob_Parser} {oR : ob_Raster} {or : ob_Ref} {od : ob_mDesk} {o : ob_Sheet} {os : ob_mSheet} {g gm gS gf gdt gs gmk gd : Nat → Int32} {b : Nat → Int64} (hN : 2 ^ 22 < N) (hd : isDpi d) (hk : k < 5) (hr : r < 4) (hT : T ≤ 134000000) (h : rsR d T oR or g gm) (he : e < 256) (hn : n ≤ 32767) (hdk : dkM k r cp p od gS) (hp : pOK k r p) (hsh : shR k r d o os gmk gd b sd nd) (hm : fd_Parser_dataCount oP = nI m) (hdt : dtR m gdt gs) :
    ∃ oR' or' g' gm' gf' o' gmk' gd' os' b' od', ex_Interpreter_doRow N oi oR (pgC d k r cp p) g oP gdt o gmk gd (nI e) (nI n) = some (oR', g', o', gmk', gd') ∧ ex_Ref_raster N or od gm gS os gf gs nd b 98 (nI e) (nI n) (nI m) = some (or', od', gm', gS, os', gf', b') ∧ rsR d (T + 1) oR' or' g' gm' ∧ rfF or or' ∧ shR k r d o' os' gmk' gd' b' sd nd ∧ shF o o' ∧ ((od' = od ∧ o' = o ∧ os' = os) ∨ (od' = dueO od ∧ fd_Sheet_due o' = 1)) := by
  have h' := h
  obtain ⟨op, rsl, md, nw, nh, a1, a2, a3, a4, a5, a6, a7, a8, a9, a10, a11, a12, a13, a14, a15, a16, a17⟩ := h'
  have hd3 : d ≤ 300 := by rcases hd with rfl | rfl | rfl <;> omega
  have hW := pgW_le (k := k) (r := r) hk
  have hH := pgH_le (k := k) (r := r) hk
  have hp0 := hp.1
  have hp1 := hp.2.1
  have g1 : gS 1 = nI (p 1) := hdk.2.2.2.2.2 1 (by omega)
  have py : fd_Page_y (pgC d k r cp p) = nI (p 1) := rfl
  have stay : ∃ oR' or' g' gm' gf' o' gmk' gd' os' b' od', some (oR, g, o, gmk, gd) = some (oR', g', o', gmk', gd') ∧ some (or, od, gm, gS, os, gf, b) = some (or', od', gm', gS, os', gf', b') ∧ rsR d (T + 1) oR' or' g' gm' ∧ rfF or or' ∧ shR k r d o' os' gmk' gd' b' sd nd ∧ shF o o' ∧ ((od' = od ∧ o' = o ∧ os' = os) ∨ (od' = dueO od ∧ fd_Sheet_due o' = 1)) := ⟨oR, or, g, gm, gf, o, gmk, gd, os, b, od, rfl, rfl, rsR_mono (by omega) h, rfF_refl or, hsh, ⟨rfl, rfl, rfl, rfl⟩, Or.inl ⟨rfl, rfl, rfl⟩⟩
  have ne : ∀ c : Nat, c < 256 → e ≠ c → ¬ nI e = nI c := fun c hc hq => mt (nI_eq (by omega) (by omega)).mp hq
  unfold ex_Interpreter_doRow ex_Ref_raster jn_Ref_raster_291o14
  rw [py, hm, if_neg (show ¬ (98 : Int32) = 116 by decide), if_neg (show ¬ (98 : Int32) = 114 by decide)]
  by_cases q77 : e = 77
  · subst q77
    rw [if_pos (show nI 77 = 77 from rfl), if_pos (show nI 77 = 77 from rfl)]
    unfold ex_Raster_setMethod
    rw [if_neg (nI_pos (by omega))]
    by_cases q : 4 ≤ n
    · rw [if_pos (show (3 : Int32) < nI n from nI_lt (a := 3) q (by omega)), if_pos (show (4 : Int32) ≤ nI n from nI_le (a := 4) q (by omega))]; exact stay
    · rw [if_neg (show ¬ (3 : Int32) < nI n from nI_nlt (a := 3) (by omega) (by omega)), if_neg (show ¬ (4 : Int32) ≤ nI n from nI_ge (b := 4) (by omega) (by omega))]
      exact ⟨_, _, g, gm, gf, o, gmk, gd, os, b, od, rfl, rfl, ⟨op, rsl, n, nw, nh, a1, a2, a3, a4, a5, rfl, rfl, by omega, a9, a10, a11, a12, a13, a14, a15, a16, (fun hq => (by
        have := rsR_mono (T' := T + 1) (by omega) h
        obtain ⟨op', rsl', md', nw', nh', b1, b2, b3, b4, b5, b6, b7, b8, b9, b10, b11, b12, b13, b14, b15, b16, b17⟩ := this
        refine b17 ?_
        cases op' with
        | true => rfl
        | false => rw [a1, hq] at b1; exact absurd b1 (by decide)))⟩, ⟨rfl, rfl, rfl, rfl, rfl, rfl, rfl, rfl, rfl, rfl, rfl, rfl, rfl, rfl, rfl⟩, hsh, ⟨rfl, rfl, rfl, rfl⟩, Or.inl ⟨rfl, rfl, rfl⟩⟩
  have n77 : ¬ nI e = 77 := ne 77 (by omega) q77
  rw [if_neg n77, if_neg n77]
  by_cases q89 : e = 89
  · subst q89
    rw [if_pos (show nI 89 = 89 from rfl), if_pos (show nI 89 = 89 from rfl), if_neg (show ¬ nI 89 = 87 by decide)]
    unfold ex_Raster_skipRows
    cases op with
    | false => rw [a1, a2, if_pos (show nI (false).toNat = 0 from rfl), if_pos (show nI (false).toNat = 0 from rfl)]; exact stay
    | true =>
      rw [a1, a2, if_neg (show ¬ nI (true).toNat = 0 by decide), if_neg (show ¬ nI (true).toNat = 0 by decide)]
      obtain ⟨hsd, X, Y, sc, rw_, W, H, p1, p2, p3, p4, p5, p6, p7, p8, p9, p10, p11, p12, p13, p14, p15, p16, p17, p18, p19, p20, p21, p22⟩ := a17 rfl
      obtain ⟨gz, z1, z2⟩ := rs_fill (N := N) (by omega) g
      obtain ⟨gz', z1', z2'⟩ := rm_zero2 (N := N) (by omega) gm
      obtain ⟨rr, hrr⟩ : ∃ rr, rr = max rw_ (min (if H = 0 then 30000 else H) (rw_ + n)) := ⟨_, rfl⟩
      have fin : ∃ oR' or' g' gm' gf' o' gmk' gd' os' b' od', some (fs_Raster_row oR (nI rr), gz, o, gmk, gd) = some (oR', g', o', gmk', gd') ∧ some (fs_Ref_row or (nI rr), od, gz', gS, os, gf, b) = some (or', od', gm', gS, os', gf', b') ∧ rsR d (T + 1) oR' or' g' gm' ∧ rfF or or' ∧ shR k r d o' os' gmk' gd' b' sd nd ∧ shF o o' ∧ ((od' = od ∧ o' = o ∧ os' = os) ∨ (od' = dueO od ∧ fd_Sheet_due o' = 1)) := by
        refine ⟨_, _, gz, gz', gf, o, gmk, gd, os, b, od, rfl, rfl, ⟨true, rsl, md, nw, nh, a1, a2, a3, a4, a5, a6, a7, a8, a9, a10, a11, a12, a13, a14, a15, a16, fun _ => ⟨sd_zero z2 z2', X, Y, sc, rr, W, H, p1, p2, p3, p4, p5, p6, rfl, rfl, p9, p10, p11, p12, p13, p14, p15, p16, p17, p18, ?_, p20, p21, ?_⟩⟩, ⟨rfl, rfl, rfl, rfl, rfl, rfl, rfl, rfl, rfl, rfl, rfl, rfl, rfl, rfl, rfl⟩, hsh, ⟨rfl, rfl, rfl, rfl⟩, Or.inl ⟨rfl, rfl, rfl⟩⟩
        · rw [hrr]; split <;> omega
        · intro hq; have := p22 hq; rw [hrr, if_neg hq]; omega
      rw [p7, p8, p11, p12, nI_add]
      simp only [z1, z1', Option.bind_some, dk_let, jn_Ref_raster_326h7]
      have cl : ∀ (lo : Nat), lo < 2 ^ 30 → (if nI rw_ < (if nI (rw_ + n) < nI lo then nI (rw_ + n) else nI lo) then (if nI (rw_ + n) < nI lo then nI (rw_ + n) else nI lo) else nI rw_) = nI (max rw_ (min lo (rw_ + n))) := by
        intro lo hlo
        have : (if nI (rw_ + n) < nI lo then nI (rw_ + n) else nI lo) = nI (min lo (rw_ + n)) := by
          by_cases q : rw_ + n < lo
          · rw [if_pos (nI_lt q (by omega)), Nat.min_eq_right (by omega)]
          · rw [if_neg (nI_nlt (by omega) (by omega)), Nat.min_eq_left (by omega)]
        rw [this]
        by_cases q : rw_ < min lo (rw_ + n)
        · rw [if_pos (nI_lt q (by omega)), Nat.max_eq_right (by omega)]
        · rw [if_neg (nI_nlt (by omega) (by omega)), Nat.max_eq_left (by omega)]
      by_cases qH : H = 0
      · rw [if_pos (show nI H = 0 by rw [qH]; rfl), if_pos (show nI H ≤ 0 by rw [qH]; decide)]
        have hc := cl 30000 (by omega)
        rw [if_pos qH] at hrr
        have hc' : (if nI rw_ < (if nI (rw_ + n) < 30000 then nI (rw_ + n) else 30000) then (if nI (rw_ + n) < 30000 then nI (rw_ + n) else 30000) else nI rw_) = nI rr := by rw [hrr]; exact hc
        rw [hc']
        by_cases q1 : rw_ ≤ 30000
        · rw [if_pos (show nI rw_ ≤ 30000 from nI_le (b := 30000) q1 (by omega))]
          by_cases q2 : rw_ + n ≤ 30000
          · rw [if_pos (show nI (rw_ + n) ≤ 30000 from nI_le (b := 30000) q2 (by omega))]
            have : rw_ + n = rr := by rw [hrr]; omega
            rw [this]; exact fin
          · rw [if_neg (show ¬ nI (rw_ + n) ≤ 30000 from nI_ge (a := 30000) (by omega) (by omega))]
            have : nI rr = 30000 := by rw [hrr, Nat.min_eq_left (by omega), Nat.max_eq_right (by omega)]; rfl
            rw [this] at fin ⊢; exact fin
        · rw [if_neg (show ¬ nI rw_ ≤ 30000 from nI_ge (a := 30000) (by omega) (by omega))]
          have hr_ : rw_ = rr := by rw [hrr]; omega
          by_cases q2 : n = 0
          · rw [if_pos (show nI (rw_ + n) ≤ nI rw_ from nI_le (by omega) (by omega))]
            have : rw_ + n = rr := by omega
            rw [this]; exact fin
          · rw [if_neg (show ¬ nI (rw_ + n) ≤ nI rw_ from nI_ge (by omega) (by omega))]
            have : fs_Ref_row or (nI rr) = or := by rw [← hr_, ← p8]
            rw [this] at fin; exact fin
      · rw [if_neg (show ¬ nI H = 0 from nI_ne0 (by omega) (by omega)), if_neg (show ¬ nI H ≤ 0 from nI_nle (by omega) (by omega))]
        have hc := cl H (by omega)
        rw [if_neg qH] at hrr
        rw [← hrr] at hc
        rw [hc]
        have := p22 qH
        by_cases q2 : rw_ + n ≤ H
        · rw [if_pos (nI_le q2 (by omega))]
          have : rw_ + n = rr := by rw [hrr]; omega
          rw [this]; exact fin
        · rw [if_neg (nI_ge (by omega) (by omega))]
          have : H = rr := by rw [hrr]; omega
          rw [← this] at fin ⊢; exact fin
  have n89 : ¬ nI e = 89 := ne 89 (by omega) q89
  rw [if_neg n89, if_neg n89]
  by_cases q87 : e = 87
  · subst q87
    rw [if_pos (show nI 87 = 87 from rfl), if_pos (show nI 87 = 87 from rfl)]
    obtain ⟨oR1, or1, g1_, gm1, e1, e2, e3, e4, e5⟩ := rs_open (N := N) (od := od) (by omega) hd3 h (show 0 ≤ 122400 by omega) (show p 1 ≤ 122400 by omega) g1
    have e1' : ex_Raster_openAt N oR g 0 (nI (p 1)) = some (oR1, g1_) := e1
    have e2' : ex_Ref_openRaster N or od gS gm 0 = some (or1, gm1) := e2
    rw [e1', e2']
    simp only [Option.bind_some]
    obtain ⟨op1, rsl1, md1, nw1, nh1, b1, b2, b3, b4, b5, b6, b7, b8, b9, b10, b11, b12, b13, b14, b15, b16, b17⟩ := e3
    have ht : op1 = true := by
      cases op1 with
      | true => rfl
      | false => rw [b1] at e4; exact absurd e4 (by decide)
    subst ht
    obtain ⟨hsd, X, Y, sc, rw_, W, H, hP⟩ := b17 rfl
    have hP' := hP
    obtain ⟨p1, p2, p3, p4, p5, p6, p7, p8, p9, p10, p11, p12, p13, p14, p15, p16, p17, p18, p19, p20, p21, p22⟩ := hP'
    by_cases hf : H = 0 ∨ rw_ < H
    · obtain ⟨g2, gm2, gf2, dt, f1, f2, f3, f4⟩ := rs_row (N := N) (nd := nd) (gf := gf) (od := od) (os := os) (b := b) hN hP hsd b6 b7 b8 hf hdt (by omega)
      have hend : ex_Raster_endRow N oR1 = some (fs_Raster_row oR1 (nI (rw_ + 1))) := by
        unfold ex_Raster_endRow ex_Raster_isFull
        rw [p11, p7]
        rcases hf with q | q
        · rw [if_pos (show nI H = 0 by rw [q]; rfl)]; simp only [Option.bind_some, if_true, nI_1]
        · rw [if_neg (show ¬ nI H = 0 from nI_ne0 (by omega) (by omega)), if_pos (nI_lt q (by omega))]; simp only [Option.bind_some, if_true, nI_1]
      have hrow : fd_Ref_row or1 + 1 = nI (rw_ + 1) := by rw [p8, nI_1]
      have hfr : rfF or (fs_Ref_row or1 (nI (rw_ + 1))) := rfF_trans e5 ⟨rfl, rfl, rfl, rfl, rfl, rfl, rfl, rfl, rfl, rfl, rfl, rfl, rfl, rfl, rfl⟩
      have hnew : rsR d (T + 1) (fs_Raster_row oR1 (nI (rw_ + 1))) (fs_Ref_row or1 (nI (rw_ + 1))) g2 gm2 := ⟨true, rsl1, md1, nw1, nh1, b1, b2, b3, b4, b5, b6, b7, b8, b9, b10, b11, b12, b13, b14, b15, b16, fun _ => ⟨f2, X, Y, sc, rw_ + 1, W, H, p1, p2, p3, p4, p5, p6, rfl, rfl, p9, p10, p11, p12, p13, p14, p15, p16, p17, p18, by omega, p20, p21, by omega⟩⟩
      have hg : (if fd_Ref_rasterHeight or1 = 0 then jn_Ref_raster_320p15 N od gS os gf gs nd b (nI m) (or1, gm1) else (if fd_Ref_rasterHeight or1 ≤ fd_Ref_row or1 then jn_Ref_raster_326h7 or1 od gm1 gS os gf b else jn_Ref_raster_320p15 N od gS os gf gs nd b (nI m) (or1, gm1))) = jn_Ref_raster_320p15 N od gS os gf gs nd b (nI m) (or1, gm1) := by
        rw [p12, p8]
        rcases hf with q | q
        · rw [if_pos (show nI H = 0 by rw [q]; rfl)]
        · rw [if_neg (show ¬ nI H = 0 from nI_ne0 (by omega) (by omega)), if_neg (nI_ge q (by omega))]
      rw [hg]
      unfold jn_Ref_raster_320p15
      simp only []
      rw [f1, f4]
      unfold rowT jn_Ref_raster_326h7
      simp only [Option.bind_some, hend, hrow, md_due]
      by_cases qd : dt = 0
      · rw [if_pos (show nI dt ≤ 0 by rw [qd]; decide), if_pos (show nI dt ≤ 0 by rw [qd]; decide)]
        exact ⟨_, _, g2, gm2, gf2, o, gmk, gd, os, b, od, rfl, rfl, hnew, hfr, hsh, ⟨rfl, rfl, rfl, rfl⟩, Or.inl ⟨rfl, rfl, rfl⟩⟩
      · have hdl : dt ≤ 8 * rbL W := by rw [f3]; exact lastB_le _ _
        have hL : rbL W ≤ 640 := by unfold rbL; split <;> omega
        have c : ¬ nI dt ≤ 0 := nI_nle (by omega) (by omega)
        rw [if_neg c, if_neg c]
        obtain ⟨o', gmk', gd', os', b', l1, l2, l3, l4, l5⟩ := ly_row (N := N) (op := pgC d k r cp p) (od := dueO od) (oR := oR1) (or := or1) (dt := dt) hN hk hr hd hsh rfl rfl rfl hdk.2.1 b16 p1 p3 p5 p7 p2 p4 p6 p8 p10 p15 p16 ⟨p17, p18⟩ (by omega) p20 rfl f2 f3 (by omega)
        rw [l1, l2]
        simp only [Option.bind_some]
        exact ⟨_, _, g2, gm2, gf2, o', gmk', gd', os', b', dueO od, rfl, rfl, hnew, hfr, l3, l5, Or.inr ⟨rfl, l4⟩⟩
    · have hfull : ex_Raster_isFull N oR1 = some 1 := by
        unfold ex_Raster_isFull
        rw [p11, p7, if_neg (show ¬ nI H = 0 from nI_ne0 (by omega) (by omega)), if_neg (nI_nlt (by omega) (by omega))]
      unfold ex_Raster_unpack ex_Raster_endRow jn_Ref_raster_326h7
      rw [hfull, p12, p8, if_neg (show ¬ nI H = 0 from nI_ne0 (by omega) (by omega)), if_pos (nI_le (show H ≤ rw_ by omega) (by omega))]
      simp only [Option.bind_some, show ¬ ((1 : Int32) = 0) by decide, if_false, show ((0 : Int32) ≤ 0) = True from eq_true (by decide), if_true]
      exact ⟨oR1, or1, g1_, gm1, gf, o, gmk, gd, os, b, od, rfl, rfl, rsR_mono (T := T) (by omega) ⟨true, rsl1, md1, nw1, nh1, b1, b2, b3, b4, b5, b6, b7, b8, b9, b10, b11, b12, b13, b14, b15, b16, b17⟩, e5, hsh, ⟨rfl, rfl, rfl, rfl⟩, Or.inl ⟨rfl, rfl, rfl⟩⟩
  have n87 : ¬ nI e = 87 := ne 87 (by omega) q87
  rw [if_neg n87, if_neg n87]; exact stay
theorem rs_shut2 {N d k r cp T : Nat} {p : Nat → Nat} {oR : ob_Raster} {or : ob_Ref} {od : ob_mDesk} {g gm gS : Nat → Int32} (hd : isDpi d) (hk : k < 5) (hr : r < 4) (hT : T ≤ 2 ^ 27) (h : rsR d T oR or g gm) (ho : fd_Raster_open oR = 1) (hdk : dkM k r cp p od gS) (hp : pOK k r p) :
    ∃ u v op' oR' or' gS' p', ex_Page_dotDown N (pgC d k r cp p) (fd_Raster_y oR) = some u ∧ ex_Raster_close N oR = some (oR', v) ∧ ex_Page_setY N (pgC d k r cp p) (((u + v).toInt64) * ((7200 / (nI d)).toInt64)) = some op' ∧ op' = pgC d k r cp p' ∧ ex_Ref_shut N or od gS = some (or', gS') ∧ dkM k r cp p' od gS' ∧ pOK k r p' ∧ rsR d T oR' or' g gm ∧ rfF or or' ∧ hiS p p' := by
  obtain ⟨op, rsl, md, nw, nh, a1, a2, a3, a4, a5, a6, a7, a8, a9, a10, a11, a12, a13, a14, a15, a16, a17⟩ := h
  have ht : op = true := by
    cases op with
    | true => rfl
    | false => rw [a1] at ho; exact absurd ho (by decide)
  subst ht
  obtain ⟨hsd, X, Y, sc, rw_, W, H, p1, p2, p3, p4, p5, p6, p7, p8, p9, p10, p11, p12, p13, p14, p15, p16, p17, p18, p19, p20, p21, p22⟩ := a17 rfl
  have hd3 : d ≤ 300 := by rcases hd with rfl | rfl | rfl <;> omega
  have hd0 : 75 ≤ d := by rcases hd with rfl | rfl | rfl <;> omega
  have hy5 := dot_le (d := d) (a := Y) hd3 (by omega)
  obtain ⟨rr, hrr⟩ : ∃ rr, rr = if H = 0 then rw_ else H := ⟨_, rfl⟩
  have hrb : rr ≤ 30000 + 2 ^ 27 := by rw [hrr]; split <;> omega
  have hsr : sc * rr ≤ 4 * (30000 + 2 ^ 27) := Nat.mul_le_mul p18 hrb
  have e72 : 7200 / nI d = nI (7200 / d) := nI_div (a := 7200) (by omega) (by omega)
  have hq : 7200 / d ≤ 96 := by
    have : 7200 / d ≤ 7200 / 75 := Nat.div_le_div_left hd0 (by omega)
    omega
  obtain ⟨z, hz⟩ : ∃ z, z = (dotN d Y + sc * rr) * (7200 / d) := ⟨_, rfl⟩
  have hzb : z ≤ 600000000 * 96 := by rw [hz]; exact Nat.mul_le_mul (by omega) hq
  obtain ⟨gS', y1, y2⟩ := md_Y (N := N) (z : Int) hk (by omega) hdk
  have y3 := pg_Y (N := N) (d := d) (cp := cp) (p := p) (z : Int) hk hr (by omega)
  have nd0 : ¬ nI d = 0 := nI_ne0 (by omega) (by omega)
  have cls : ex_Raster_close N oR = some ((if H = 0 then fs_Raster_method (fs_Raster_open oR 0) 0 else fs_Raster_method (fs_Raster_row (fs_Raster_open oR 0) (nI H)) 0), nI (sc * rr)) := by
    unfold ex_Raster_close
    rw [p11, p5, p7]
    by_cases q : H = 0
    · rw [if_pos (show nI H = 0 by rw [q]; rfl), if_pos q, hrr, if_pos q, nI_mul]
    · rw [if_neg (show ¬ nI H = 0 from nI_ne0 (by omega) (by omega)), if_neg q, hrr, if_neg q, nI_mul]
  refine ⟨nI (dotN d Y), nI (sc * rr), _, _, fs_Ref_open (fs_Ref_method or 0) 0, gS', _, by rw [p3]; exact pg_dotD hd3 p16 rfl, cls, ?_, rfl, ?_, y2, ?_, ?_, ⟨rfl, rfl, rfl, rfl, rfl, rfl, rfl, rfl, rfl, rfl, rfl, rfl, rfl, rfl, rfl⟩, fun i hi => by simp only [nset]; rw [if_neg (by omega)]⟩
  · rw [nI_add, e72, nI_l (by omega), nI_l (by omega), lN_mul, ← hz]; exact y3
  · unfold ex_Ref_shut
    have q2' : fd_Ref_dpi (fs_Ref_open (fs_Ref_method or 0) 0) = nI d := a16
    rw [p12, p4, rf_dotY hd p16 q2', a16, e72, p6, p8]
    simp only [Option.bind_some, dk_let, if_pos nd0]
    have y1' : ex_mDesk_setY N od gS (lN z) = some gS' := y1
    by_cases q : H = 0
    · rw [if_pos (show nI H ≤ 0 by rw [q]; decide), nI_l (by omega), nI_l (by omega), nI_l (by omega), nI_l (by omega), lN_mul, lN_add, lN_mul]
      have : (dotN d Y + sc * rw_) * (7200 / d) = z := by rw [hz, hrr, if_pos q]
      rw [this, y1']; rfl
    · rw [if_neg (show ¬ nI H ≤ 0 from nI_nle (by omega) (by omega)), nI_l (by omega), nI_l (by omega), nI_l (by omega), nI_l (by omega), lN_mul, lN_add, lN_mul]
      have : (dotN d Y + sc * H) * (7200 / d) = z := by rw [hz, hrr, if_neg q]
      rw [this, y1']; rfl
  · exact ok_Y hp (clamp_le _ _)
  · by_cases q : H = 0
    · rw [if_pos q]
      exact ⟨false, rsl, 0, nw, nh, rfl, rfl, a3, a4, a5, rfl, rfl, by omega, a9, a10, a11, a12, a13, a14, a15, a16, fun hq => absurd hq (by decide)⟩
    · rw [if_neg q]
      exact ⟨false, rsl, 0, nw, nh, rfl, rfl, a3, a4, a5, rfl, rfl, by omega, a9, a10, a11, a12, a13, a14, a15, a16, fun hq => absurd hq (by decide)⟩
theorem ras_r2 {N d k r cp T e n nd : Nat} {p : Nat → Nat} {oi : ob_Interpreter} {oR : ob_Raster} {or : ob_Ref} {od : ob_mDesk} {os : ob_mSheet} {g gm gS gf gs : Nat → Int32} {b : Nat → Int64} {v3 : Int32} (hN : 1000 < N) (hd : isDpi d) (hk : k < 5) (hr : r < 4) (hT : T ≤ 2 ^ 27) (h : rsR d T oR or g gm) (he : e < 256) (hn : n ≤ 32767) (hdk : dkM k r cp p od gS) (hp : pOK k r p) :
    ∃ oR' or' g' gm' gS' p', ex_Interpreter_doRaster N oi oR (pgC d k r cp p) g (nI e) (nI n) = some (oR', pgC d k r cp p', g') ∧ ex_Ref_raster N or od gm gS os gf gs nd b 114 (nI e) (nI n) v3 = some (or', od, gm', gS', os, gf, b) ∧ rsR d T oR' or' g' gm' ∧ rfF or or' ∧ dkM k r cp p' od gS' ∧ pOK k r p' ∧ hiS p p' := by
  have h' := h
  obtain ⟨op, rsl, md, nw, nh, a1, a2, a3, a4, a5, a6, a7, a8, a9, a10, a11, a12, a13, a14, a15, a16, a17⟩ := h'
  have hd3 : d ≤ 300 := by rcases hd with rfl | rfl | rfl <;> omega
  have hd0 : 75 ≤ d := by rcases hd with rfl | rfl | rfl <;> omega
  have hW := pgW_le (k := k) (r := r) hk
  have hH := pgH_le (k := k) (r := r) hk
  have hp0 := hp.1
  have hp1 := hp.2.1
  have g0 : gS 0 = nI (p 0) := hdk.2.2.2.2.2 0 (by omega)
  have g1 : gS 1 = nI (p 1) := hdk.2.2.2.2.2 1 (by omega)
  have px : fd_Page_x (pgC d k r cp p) = nI (p 0) := rfl
  have py : fd_Page_y (pgC d k r cp p) = nI (p 1) := rfl
  have pd : fd_Page_dpi (pgC d k r cp p) = nI d := rfl
  have nd0 : ¬ nI d = 0 := nI_ne0 (by omega) (by omega)
  have stay : ∃ oR' or' g' gm' gS' p', some (oR, pgC d k r cp p, g) = some (oR', pgC d k r cp p', g') ∧ some (or, od, gm, gS, os, gf, b) = some (or', od, gm', gS', os, gf, b) ∧ rsR d T oR' or' g' gm' ∧ rfF or or' ∧ dkM k r cp p' od gS' ∧ pOK k r p' ∧ hiS p p' := ⟨oR, or, g, gm, gS, p, rfl, rfl, h, rfF_refl or, hdk, hp, fun i _ => rfl⟩
  have ne : ∀ c : Nat, c < 256 → e ≠ c → ¬ nI e = nI c := fun c hc hq => mt (nI_eq (by omega) (by omega)).mp hq
  have op_ : ∀ X : Nat, X ≤ 122400 → ∃ oR' or' g' gm' gS' p', (ex_Raster_openAt N oR g (nI X) (nI (p 1))).bind (fun u => some (u.1, pgC d k r cp p, u.2)) = some (oR', pgC d k r cp p', g') ∧ (ex_Ref_openRaster N or od gS gm (nI X)).bind (fun u => some (u.1, od, u.2, gS, os, gf, b)) = some (or', od, gm', gS', os, gf, b) ∧ rsR d T oR' or' g' gm' ∧ rfF or or' ∧ dkM k r cp p' od gS' ∧ pOK k r p' ∧ hiS p p' := by
    intro X hX
    obtain ⟨oR', or', g', gm', e1, e2, e3, e4, e5⟩ := rs_open (N := N) (od := od) hN hd3 h hX (by omega) g1
    rw [e1, e2]
    exact ⟨oR', or', g', gm', gS, p, rfl, rfl, e3, e5, hdk, hp, fun i _ => rfl⟩
  have sh_ : (if fd_Raster_open oR = 0 then (some (oR, pgC d k r cp p, g) : Option rs_Interpreter_doRaster) else ((ex_Page_dotDown N (pgC d k r cp p) (fd_Raster_y oR)).bind (fun u_7 => (ex_Raster_close N oR).bind (fun u_10 => if ¬ (fd_Page_dpi (pgC d k r cp p)) = 0 then ((ex_Page_setY N (pgC d k r cp p) (((u_7 + u_10.2).toInt64) * ((7200 / (fd_Page_dpi (pgC d k r cp p))).toInt64))).bind (fun u_14 => some (u_10.1, u_14, g))) else none)))) = (if fd_Raster_open oR = 0 then (some (oR, pgC d k r cp p, g) : Option rs_Interpreter_doRaster) else ((ex_Page_dotDown N (pgC d k r cp p) (fd_Raster_y oR)).bind (fun u_7 => (ex_Raster_close N oR).bind (fun u_10 => if ¬ (nI d) = 0 then ((ex_Page_setY N (pgC d k r cp p) (((u_7 + u_10.2).toInt64) * ((7200 / (nI d)).toInt64))).bind (fun u_14 => some (u_10.1, u_14, g))) else none)))) := rfl
  have shut_ : ∃ oR' or' g' gm' gS' p', (if fd_Raster_open oR = 0 then (some (oR, pgC d k r cp p, g) : Option rs_Interpreter_doRaster) else ((ex_Page_dotDown N (pgC d k r cp p) (fd_Raster_y oR)).bind (fun u_7 => (ex_Raster_close N oR).bind (fun u_10 => if ¬ (nI d) = 0 then ((ex_Page_setY N (pgC d k r cp p) (((u_7 + u_10.2).toInt64) * ((7200 / (nI d)).toInt64))).bind (fun u_14 => some (u_10.1, u_14, g))) else none)))) = some (oR', pgC d k r cp p', g') ∧ jn_Ref_raster_148z25 N or od gm gS os gf b = some (or', od, gm', gS', os, gf, b) ∧ rsR d T oR' or' g' gm' ∧ rfF or or' ∧ dkM k r cp p' od gS' ∧ pOK k r p' ∧ hiS p p' := by
    unfold jn_Ref_raster_148z25 jn_Ref_raster_326h7
    cases op with
    | false =>
      rw [a1, a2, if_pos (show nI (false).toNat = 0 from rfl), if_pos (show nI (false).toNat = 0 from rfl)]; exact stay
    | true =>
      rw [a1, a2, if_neg (show ¬ nI (true).toNat = 0 by decide), if_neg (show ¬ nI (true).toNat = 0 by decide)]
      obtain ⟨u, v, op', oR', or', gS', p', e1, e2, e3, e4, e5, e6, e7, e8, e9, e10⟩ := rs_shut2 (N := N) hd hk hr hT h a1 hdk hp
      rw [e1, e2, e5]
      simp only [Option.bind_some, if_pos nd0]
      rw [e3, e4]
      exact ⟨oR', or', g, gm, gS', p', rfl, rfl, e8, e9, e6, e7, e10⟩
  unfold ex_Interpreter_doRaster ex_Ref_raster jn_Ref_raster_80w22 jn_Ref_raster_101x23 jn_Ref_raster_136y24
  rw [px, py, g0, sh_, if_neg (show ¬ (114 : Int32) = 116 by decide), if_pos (show (114 : Int32) = 114 from rfl)]
  by_cases q65 : e = 65
  · subst q65
    simp only [if_pos (show nI 65 = 65 from rfl), if_neg (show ¬ nI 65 = 83 by decide), if_neg (show ¬ nI 65 = 84 by decide), if_neg (show ¬ nI 65 = 66 by decide), if_neg (show ¬ nI 65 = 67 by decide), jn_Ref_raster_326h7]
    by_cases q2 : 2 ≤ n
    · rw [if_pos (show (1 : Int32) < nI n from nI_lt (a := 1) q2 (by omega)), if_pos (show (2 : Int32) ≤ nI n from nI_le (a := 2) q2 (by omega))]; exact stay
    · rw [if_neg (show ¬ (1 : Int32) < nI n from nI_nlt (a := 1) (by omega) (by omega)), if_neg (show ¬ (2 : Int32) ≤ nI n from nI_ge (b := 2) (by omega) (by omega))]
      have : n = 0 ∨ n = 1 := by omega
      rcases this with rfl | rfl
      · rw [if_neg (show ¬ nI 0 = 1 by decide), if_pos (show nI 0 = 0 from rfl)]; exact op_ 0 (by omega)
      · rw [if_pos (show nI 1 = 1 from rfl), if_neg (show ¬ nI 1 = 0 by decide)]; exact op_ (p 0) (by omega)
  by_cases q66 : e = 66
  · subst q66
    simp only [if_pos (show nI 66 = 66 from rfl), if_neg (show ¬ nI 66 = 83 by decide), if_neg (show ¬ nI 66 = 84 by decide), if_neg (show ¬ nI 66 = 65 by decide)]
    exact shut_
  by_cases q67 : e = 67
  · subst q67
    simp only [if_pos (show nI 67 = 67 from rfl), if_neg (show ¬ nI 67 = 83 by decide), if_neg (show ¬ nI 67 = 84 by decide), if_neg (show ¬ nI 67 = 65 by decide), if_neg (show ¬ nI 67 = 66 by decide)]
    exact shut_
  have n65 : ¬ nI e = 65 := ne 65 (by omega) q65
  have n66 : ¬ nI e = 66 := ne 66 (by omega) q66
  have n67 : ¬ nI e = 67 := ne 67 (by omega) q67
  simp only [if_neg n65, if_neg n66, if_neg n67, jn_Ref_raster_326h7]
  unfold ex_Raster_setNextWidth ex_Raster_setNextHeight
  by_cases q83 : e = 83
  · subst q83
    rw [if_pos (show nI 83 = 83 from rfl), if_pos (show nI 83 = 83 from rfl), if_neg (show ¬ nI 83 = 84 by decide)]
    by_cases q : 5120 ≤ n
    · rw [if_pos (show (5119 : Int32) < nI n from nI_lt (a := 5119) q (by omega)), if_pos (show (5120 : Int32) ≤ nI n from nI_le (a := 5120) q (by omega))]; exact stay
    · rw [if_neg (show ¬ (5119 : Int32) < nI n from nI_nlt (a := 5119) (by omega) (by omega)), if_neg (show ¬ (5120 : Int32) ≤ nI n from nI_ge (b := 5120) (by omega) (by omega))]
      exact ⟨_, _, g, gm, gS, p, rfl, rfl, ⟨op, rsl, md, n, nh, a1, a2, a3, a4, a5, a6, a7, a8, rfl, rfl, by omega, a12, a13, a14, a15, a16, a17⟩, ⟨rfl, rfl, rfl, rfl, rfl, rfl, rfl, rfl, rfl, rfl, rfl, rfl, rfl, rfl, rfl⟩, hdk, hp, fun i _ => rfl⟩
  have n83 : ¬ nI e = 83 := ne 83 (by omega) q83
  rw [if_neg n83, if_neg n83]
  by_cases q84 : e = 84
  · subst q84
    rw [if_pos (show nI 84 = 84 from rfl), if_pos (show nI 84 = 84 from rfl)]
    by_cases q : 5120 ≤ n
    · rw [if_pos (show (5119 : Int32) < nI n from nI_lt (a := 5119) q (by omega)), if_pos (show (5120 : Int32) ≤ nI n from nI_le (a := 5120) q (by omega))]; exact stay
    · rw [if_neg (show ¬ (5119 : Int32) < nI n from nI_nlt (a := 5119) (by omega) (by omega)), if_neg (show ¬ (5120 : Int32) ≤ nI n from nI_ge (b := 5120) (by omega) (by omega))]
      exact ⟨_, _, g, gm, gS, p, rfl, rfl, ⟨op, rsl, md, nw, n, a1, a2, a3, a4, a5, a6, a7, a8, a9, a10, a11, rfl, rfl, by omega, a15, a16, a17⟩, ⟨rfl, rfl, rfl, rfl, rfl, rfl, rfl, rfl, rfl, rfl, rfl, rfl, rfl, rfl, rfl⟩, hdk, hp, fun i _ => rfl⟩
  have n84 : ¬ nI e = 84 := ne 84 (by omega) q84
  rw [if_neg n84, if_neg n84]; exact stay
def kRa (s : CS) (oR : ob_Raster) (g : Nat → Int32) (op : ob_Page) (o : ob_Sheet) (gmk gd : Nat → Int32) : CS := ((s.1, s.2.1, s.2.2.1, s.2.2.2.1, s.2.2.2.2.1, (o, gmk, gd, s.n_sheet_band, s.g_sheet_band), (op, s.g_page_stack, s.g_page_kept), s.2.2.2.2.2.2.2.1, s.2.2.2.2.2.2.2.2.1, s.2.2.2.2.2.2.2.2.2.1, s.2.2.2.2.2.2.2.2.2.2.1, (oR, g)) : CS)
def mRa (m : RS) (or : ob_Ref) (gf gm : Nat → Int32) (os : ob_mSheet) (b : Nat → Int64) (od : ob_mDesk) (gS : Nat → Int32) : RS := (((or, m.g_pages, gf, m.g_shownPages, m.g_tape, gm, m.g_xWhat, m.g_xId, m.g_toDo, m.g_toDoId, m.g_bytes2, m.g_bytes1), m.2.1, m.2.2.1, (os, m.n_sheet_dots, b), (od, gS, m.g_desk_isKept, m.g_desk_steps, m.g_desk_store, m.g_desk_page, m.g_desk_other, m.g_desk_glyph, m.g_desk_kept), m.2.2.2.2.2.1, m.2.2.2.2.2.2.1, m.2.2.2.2.2.2.2.1, m.2.2.2.2.2.2.2.2.1, m.2.2.2.2.2.2.2.2.2) : RS)
theorem dueO_B (o : ob_mDesk) : dueB (dueO o) = true := by
  unfold dueB
  rw [show decide (¬ fd_mDesk_touched (dueO o) = 0) = true from decide_eq_true (show ¬ (1 : Int32) = 0 by decide), Bool.or_true]
theorem dueO_I {T : Nat} {o : ob_mDesk} (h : dkI T o) : dkI T (dueO o) := by
  obtain ⟨A, G, P, h1, h2, h3, h4, h5, h6, h7⟩ := h
  exact ⟨A, G, P, h1, h2, h3, h4, h5, h6, Or.inr rfl⟩
theorem dueO_F (o : ob_mDesk) : dkF o (dueO o) := ⟨rfl, rfl, rfl, rfl, rfl, rfl, rfl, rfl, rfl, rfl, rfl, rfl, rfl, rfl⟩
/-- a raster's command or a rule, on both sides -/
theorem cx_ra {N d k r cp T T' : Nat} {p p' : Nat → Nat} {s : CS} {m : RS} {oR : ob_Raster} {g : Nat → Int32} {o : ob_Sheet} {gmk gd : Nat → Int32} {or : ob_Ref} {gf gm : Nat → Int32} {os : ob_mSheet} {b : Nat → Int64} {od : ob_mDesk} {gS : Nat → Int32} (h : cCx N d k r cp T p s m) (hsd : cSd s m) (hcm : fd_mDesk_came m.o_desk = 0) (hT : T ≤ T') (hra : rsR d T' oR or g gm) (hrf : rfF m.o_this or) (hdk : dkM k r cp p' od gS) (hp : pOK k r p') (hhi : hiS p p') (hsh : ∀ sd, shR k r d s.o_sheet m.o_sheet s.g_sheet_marks s.g_sheet_dots m.g_sheet_dots sd m.n_sheet_dots → shR k r d o os gmk gd b sd m.n_sheet_dots) (hF : shF s.o_sheet o) (hdu : (od = m.o_desk ∧ o = s.o_sheet ∧ os = m.o_sheet) ∨ (od = dueO m.o_desk ∧ fd_Sheet_due o = 1)) :
    ∃ x m3, x = kRa s oR g (pgC d k r cp p') o gmk gd ∧ m3 = mRa m or gf gm os b od gS ∧ cCx N d k r cp T' p' x m3 ∧ cSd x m3 ∧ dkF m.o_desk m3.o_desk ∧ fd_mDesk_came m3.o_desk = 0 ∧ m3.g_desk_other = m.g_desk_other ∧ itS s x ∧ rfM m m3 ∧ kfG s x := by
  obtain ⟨f1, f2, f3, f4, f5, f6, f7, f8, f9, f10, f11, f12, f13, f14, f15⟩ := hrf
  obtain ⟨⟨g1, g2, g3, g4, g5, g6, g7, g8, g9, g10⟩, ⟨a1, a2, ⟨sd, q1, q2⟩, a4, a5, ⟨y1, y2, y3, hru⟩⟩, hFo, hRa, ⟨m1, m2, ⟨i, hi0, hi1, hi2⟩, ⟨hh, hh0, hh1, hh2⟩⟩, ⟨l1, l2, l3, l4, l5, l6⟩, ⟨fa1, fa2⟩, hIt⟩ := h
  refine ⟨_, _, rfl, rfl, ⟨⟨g1, g2, g3, g4, rfl, hp, stk_S hhi g7, hdk, g9, f2.trans g10⟩, ⟨?a1, ?a2, ⟨sd, hsh sd q1, q2⟩, ?a4, ?a5, ⟨y1, y2, y3, ?ru⟩⟩, hFo, hra, ⟨mcS_mono hT m1, m2, ⟨i, hi0, hi1, f8.trans hi2⟩, ⟨hh, hh0, hh1, f6.trans hh2⟩⟩, ⟨l1, l2, l3, l4, l5, l6.trans f9.symm⟩, ⟨fa1, f4.trans fa2⟩, hIt⟩, ?sd, ?df, ?cm, rfl, itS_refl s, ⟨f6, rfl, rfl, rfl, rfl, rfl, rfl, rfl, rfl, rfl, rfl, rfl, rfl, ⟨f1, f2, f3, f5, f7, f14, f13⟩, rfl, rfl, rfl, rfl, rfl, rfl, rfl, rfl, rfl, rfl, rfl, rfl, rfl, rfl, rfl, rfl, rfl, rfl, rfl, rfl, rfl, rfl, rfl, rfl, rfl, rfl, rfl, rfl, rfl, rfl⟩, kfG_refl s⟩
  case a1 =>
    show dkI T' od
    rcases hdu with ⟨e1, _⟩ | ⟨e1, _⟩
    · rw [e1]; exact a1.mono hT
    · rw [e1]; exact dueO_I (a1.mono hT)
  case a2 =>
    show fd_Sheet_due o = nI (dueB od).toNat
    rcases hdu with ⟨e1, e2, _⟩ | ⟨e1, e2⟩
    · rw [e1, e2]; exact a2
    · rw [e1, e2, dueO_B]; rfl
  case a4 =>
    intro hq
    show fd_mSheet_marks os = 0
    have hq' : dueB od = false := hq
    rcases hdu with ⟨e1, e2, e3⟩ | ⟨e1, e2⟩
    · rw [e3]; rw [e1] at hq'; exact a4 hq'
    · rw [e1, dueO_B] at hq'; exact absurd hq' (by decide)
  case a5 =>
    obtain ⟨⟨BL, b1, b2, b3, b4⟩, b5, b6⟩ := a5
    exact ⟨⟨BL, hF.1.trans b1, b2, b3, b4⟩, b5, b6⟩
  case ru => exact ⟨hF.2.1.trans hru.1, f12.trans hru.2.1, hF.2.2.1.trans hru.2.2.1, f11.trans hru.2.2.2.1, hF.2.2.2.trans hru.2.2.2.2.1, f10.trans hru.2.2.2.2.2.1, hru.2.2.2.2.2.2⟩
  case sd =>
    obtain ⟨c, c1, c2, c3, c4⟩ := hsd
    exact ⟨c, c1, c2, f15.trans c3, c4⟩
  case df =>
    show dkF m.o_desk od
    rcases hdu with ⟨e1, _⟩ | ⟨e1, _⟩
    · rw [e1]; exact dkF.refl _
    · rw [e1]; exact dueO_F _
  case cm =>
    show fd_mDesk_came od = 0
    rcases hdu with ⟨e1, _⟩ | ⟨e1, _⟩
    · rw [e1]; exact hcm
    · rw [e1]; exact hcm
theorem hiS_refl (p : Nat → Nat) : hiS p p := fun _ _ => rfl
theorem oc_t {N d k r cp T e mm : Nat} {v : Int} {p : Nat → Nat} {s : CS} {m : RS} (h : oH N d k r cp T 42 116 e mm v p s m) : oR N d T 10868 s m := by
  obtain ⟨hC, hSd, hcm, ⟨bf, bg, be, bm, bv1, bv2⟩, c1, c2, c3, hdt, y0, y1, y2, y3, y5⟩ := h
  obtain ⟨n1, n2⟩ := ps_num (N := N) c2 ⟨bv1, bv2⟩
  have hn : v.toNat / 10000 ≤ 32767 := by omega
  have hPg := hC.1
  have hRa := hC.2.2.2.1
  obtain ⟨oR', or', e1, e2, e3, e4⟩ := ras_t (N := N) (nd := m.n_sheet_dots) (oi := s.o_interpreter) (od := m.o_desk) (os := m.o_sheet) (gS := m.g_desk_state) (gf := m.g_fresh) (gs := m.g_desk_store) (b := m.g_sheet_dots) (v3 := m.g_desk_other 5) hRa be hn
  obtain ⟨x, m3, hx, hm, r1, r2, r3, r4, r5, r6, r7, r8⟩ := cx_ra (gf := m.g_fresh) (o := s.o_sheet) (os := m.o_sheet) (gmk := s.g_sheet_marks) (gd := s.g_sheet_dots) (b := m.g_sheet_dots) (od := m.o_desk) (gS := m.g_desk_state) hC hSd hcm (show T ≤ T + 4 by omega) (rsR_mono (by omega) e3) e4 hPg.2.2.2.2.2.2.2.1 hPg.2.2.2.2.2.1 (hiS_refl p) (fun _ h => h) ⟨rfl, rfl, rfl, rfl⟩ (Or.inl ⟨rfl, rfl, rfl⟩)
  rw [← hPg.2.2.2.2.1] at hx
  refine ⟨x, m3, k, r, cp, p, ?_, ?_, r1, r2, r3, r4, r5, r6, r7, r8⟩
  · rw [kd_10868]
    refine (bind_eq n1).trans ?_
    unfold kReso
    refine Option.map_eq_some_iff.mpr ⟨oR', ?_, hx.symm⟩
    rw [c1]; exact e1
  · refine mo_3_116 y0 y1 y2 ⟨bv1, bv2⟩ ?_
    unfold mRasW
    refine Option.map_eq_some_iff.mpr ⟨(or', m.o_desk, m.g_seed, m.g_desk_state, m.o_sheet, m.g_fresh, m.g_sheet_dots), ?_, hm.symm⟩
    rw [y1, y3]; exact e2
theorem oc_r {N d k r cp T e mm : Nat} {v : Int} {p : Nat → Nat} {s : CS} {m : RS} (hN : 1000 < N) (hT : T ≤ 2 ^ 27) (h : oH N d k r cp T 42 114 e mm v p s m) : oR N d T 10866 s m := by
  obtain ⟨hC, hSd, hcm, ⟨bf, bg, be, bm, bv1, bv2⟩, c1, c2, c3, hdt, y0, y1, y2, y3, y5⟩ := h
  obtain ⟨n1, n2⟩ := ps_num (N := N) c2 ⟨bv1, bv2⟩
  have hn : v.toNat / 10000 ≤ 32767 := by omega
  have hPg := hC.1
  have hRa := hC.2.2.2.1
  obtain ⟨oR', or', g', gm', gS', p', e1, e2, e3, e4, e5, e6, e7⟩ := ras_r2 (N := N) (nd := m.n_sheet_dots) (oi := s.o_interpreter) (os := m.o_sheet) (gf := m.g_fresh) (gs := m.g_desk_store) (b := m.g_sheet_dots) (v3 := m.g_desk_other 5) hN hPg.1 hPg.2.1 hPg.2.2.1 hT hRa be hn hPg.2.2.2.2.2.2.2.1 hPg.2.2.2.2.2.1
  obtain ⟨x, m3, hx, hm, r1, r2, r3, r4, r5, r6, r7, r8⟩ := cx_ra (gf := m.g_fresh) (o := s.o_sheet) (os := m.o_sheet) (gmk := s.g_sheet_marks) (gd := s.g_sheet_dots) (b := m.g_sheet_dots) (od := m.o_desk) (gS := gS') hC hSd hcm (show T ≤ T + 4 by omega) (rsR_mono (by omega) e3) e4 e5 e6 e7 (fun _ h => h) ⟨rfl, rfl, rfl, rfl⟩ (Or.inl ⟨rfl, rfl, rfl⟩)
  refine ⟨x, m3, k, r, cp, p', ?_, ?_, r1, r2, r3, r4, r5, r6, r7, r8⟩
  · rw [kd_10866]
    refine (bind_eq n1).trans ?_
    unfold kRaster
    refine Option.map_eq_some_iff.mpr ⟨(oR', pgC d k r cp p', g'), ?_, hx.symm⟩
    rw [c1, hPg.2.2.2.2.1]; exact e1
  · refine mo_3_114 y0 y1 y2 ⟨bv1, bv2⟩ ?_
    unfold mRasW
    refine Option.map_eq_some_iff.mpr ⟨(or', m.o_desk, gm', gS', m.o_sheet, m.g_fresh, m.g_sheet_dots), ?_, hm.symm⟩
    rw [y1, y3]; exact e2
theorem oc_b {N d k r cp T e mm : Nat} {v : Int} {p : Nat → Nat} {s : CS} {m : RS} (hN : 2 ^ 22 < N) (hT : T ≤ 134000000) (h : oH N d k r cp T 42 98 e mm v p s m) : oR N d T 10850 s m := by
  obtain ⟨hC, hSd, hcm, ⟨bf, bg, be, bm, bv1, bv2⟩, c1, c2, c3, hdt, y0, y1, y2, y3, y5⟩ := h
  obtain ⟨n1, n2⟩ := ps_num (N := N) c2 ⟨bv1, bv2⟩
  have hn : v.toNat / 10000 ≤ 32767 := by omega
  have hPg := hC.1
  have hRa := hC.2.2.2.1
  obtain ⟨sd, q1, q2⟩ := hC.2.1.2.2.1
  obtain ⟨oR', or', g', gm', gf', o', gmk', gd', os', b', od', e1, e2, e3, e4, e5, e6, e7⟩ := ras_b2 (N := N) (oi := s.o_interpreter) (gf := m.g_fresh) hN hPg.1 hPg.2.1 hPg.2.2.1 hT hRa be hn hPg.2.2.2.2.2.2.2.1 hPg.2.2.2.2.2.1 q1 c3 hdt
  have e5' : ∀ sd', shR k r d s.o_sheet m.o_sheet s.g_sheet_marks s.g_sheet_dots m.g_sheet_dots sd' m.n_sheet_dots → shR k r d o' os' gmk' gd' b' sd' m.n_sheet_dots := by
    intro sd' q
    obtain ⟨oR2, or2, g2, gm2, gf2, o2, gmk2, gd2, os2, b2, od2, w1, w2, w3, w4, w5, w6, w7⟩ := ras_b2 (N := N) (oi := s.o_interpreter) (gf := m.g_fresh) hN hPg.1 hPg.2.1 hPg.2.2.1 hT hRa be hn hPg.2.2.2.2.2.2.2.1 hPg.2.2.2.2.2.1 q c3 hdt
    have z1 := Option.some.inj (w1.symm.trans e1)
    have z2 := Option.some.inj (w2.symm.trans e2)
    have y1 : o2 = o' := congrArg (fun t => t.2.2.1) z1
    have y2 : gmk2 = gmk' := congrArg (fun t => t.2.2.2.1) z1
    have y3 : gd2 = gd' := congrArg (fun t => t.2.2.2.2) z1
    have y4 : os2 = os' := congrArg (fun t => t.2.2.2.2.1) z2
    have y5 : b2 = b' := congrArg (fun t => t.2.2.2.2.2.2) z2
    rw [y1, y2, y3, y4, y5] at w5
    exact w5
  have hdk' : dkM k r cp p od' m.g_desk_state := by
    have := hPg.2.2.2.2.2.2.2.1
    rcases e7 with ⟨z, _⟩ | ⟨z, _⟩
    · rw [z]; exact this
    · rw [z]; exact this
  obtain ⟨x, m3, hx, hm, r1, r2, r3, r4, r5, r6, r7, r8⟩ := cx_ra (gf := gf') hC hSd hcm (show T ≤ T + 4 by omega) (rsR_mono (by omega) e3) e4 hdk' hPg.2.2.2.2.2.1 (hiS_refl p) e5' e6 e7
  rw [← hPg.2.2.2.2.1] at hx
  refine ⟨x, m3, k, r, cp, p, ?_, ?_, r1, r2, r3, r4, r5, r6, r7, r8⟩
  · rw [kd_10850]
    refine (bind_eq n1).trans ?_
    unfold kRow
    refine Option.map_eq_some_iff.mpr ⟨(oR', g', o', gmk', gd'), ?_, hx.symm⟩
    rw [c1, hPg.2.2.2.2.1]; exact e1
  · refine mo_3_98 y0 y1 y2 ⟨bv1, bv2⟩ ?_
    unfold mRasW
    refine Option.map_eq_some_iff.mpr ⟨(or', od', gm', m.g_desk_state, os', gf', b'), ?_, hm.symm⟩
    rw [y1, y3, y5]; exact e2
def kMc (s : CS) (om : ob_Macros) (sa si : Nat → Int32) : CS := ((s.1, s.2.1, s.2.2.1, s.2.2.2.1, s.2.2.2.2.1, s.2.2.2.2.2.1, s.2.2.2.2.2.2.1, s.2.2.2.2.2.2.2.1, s.2.2.2.2.2.2.2.2.1, (om, s.g_macros_ids, s.g_macros_places, s.g_macros_lengths, s.g_macros_permanent, s.g_macros_bytes, s.n_macros_collected, s.g_macros_collected, sa, si), s.2.2.2.2.2.2.2.2.2.2.1, s.2.2.2.2.2.2.2.2.2.2.2) : CS)
theorem agree_add {n : Nat} {f g : Nat → Int32} (x : Int32) (h : agree n f g) : agree (n + 1) (upd f n x) (upd g n x) := fun i hi => by
  unfold upd
  by_cases q : i = n
  · rw [if_pos q, if_pos q]
  · rw [if_neg q, if_neg q]; exact h i (by omega)
theorem oc_m {N d k r cp T e mm : Nat} {v : Int} {p : Nat → Nat} {s : CS} {m : RS} (he : e ≠ 83) (h : oH N d k r cp T 38 102 e mm v p s m) : oR N d T 9830 s m := by
  have h' := h
  obtain ⟨⟨hPg, hSh, hFo, hRa, ⟨m1, m2, ⟨i, hi0, hi1, hi2⟩, hhd⟩, hFl, hFa, hIt⟩, ⟨c, d1, d2, d3, d4, d5, d6⟩, hcm, ⟨bf, bg, be, bm, bv1, bv2⟩, c1, c2, c3, hdt, y0, y1, y2, y3, y5⟩ := h'
  obtain ⟨n1, n2⟩ := ps_num (N := N) c2 ⟨bv1, bv2⟩
  have hn : v.toNat / 10000 ≤ 32767 := by omega
  have ne : ∀ j : Nat, j < 256 → e ≠ j → ¬ nI e = nI j := fun j hj hne => mt (nI_eq (by omega) (by omega)).mp hne
  have n83 : ¬ nI e = 83 := ne 83 (by omega) he
  have go : kDo N s (nI 9830) = kStack N s (nI e) (nI (v.toNat / 10000)) := by
    rw [kd_9830]
    refine (bind_eq n1).trans ?_
    rw [c1]
  obtain ⟨n, hnd⟩ : ∃ n, n = v.toNat / 10000 := ⟨_, rfl⟩
  rw [← hnd] at hn go
  by_cases q89 : e = 89
  · subst q89
    obtain ⟨x, hx⟩ : ∃ x, x = kMc s (fs_Macros_id s.o_macros (nI n)) s.g_macros_saidActs s.g_macros_saidIds := ⟨_, rfl⟩
    obtain ⟨m3, hm⟩ : ∃ m3, m3 = mXY m (fs_Ref_macroId m.o_this (nI n)) m.g_xWhat m.g_xId := ⟨_, rfl⟩
    have k1 : kDo N s (nI 9830) = some x := by
      rw [go]; unfold kStack
      refine Option.map_eq_some_iff.mpr ⟨(fs_Macros_id s.o_macros (nI n), s.g_macros_saidActs, s.g_macros_saidIds, s.o_page, s.g_page_stack), ?_, hx.symm⟩
      unfold ex_Interpreter_doStackAndMacros
      rw [if_neg n83, if_neg n83, if_pos (show nI 89 = 89 from rfl)]; rfl
    have k2 : mOther N m = some m3 := by
      refine mo_Y y0 y1 y3 y2 ⟨bv1, bv2⟩ ?_
      rw [hm, hnd]
    subst hx; subst hm
    exact ⟨_, _, k, r, cp, p, k1, k2, ⟨hPg, ⟨hSh.1.mono (by omega), hSh.2⟩, hFo, rsR_mono (by omega) hRa, ⟨mcS_mono (T' := T + 4) (by omega) m1, m2, ⟨n, hn, rfl, rfl⟩, hhd⟩, hFl, hFa, hIt⟩, ⟨c, d1, d2, d3, d4, d5, d6⟩, dkF.refl _, hcm, rfl, itS_refl s, rfM_refl m, kfG_refl s⟩
  have n89 : ¬ nI e = 89 := ne 89 (by omega) q89
  by_cases q88 : e = 88
  · subst q88
    have un : ex_Interpreter_doStackAndMacros N s.o_interpreter s.o_macros s.g_macros_saidActs s.g_macros_saidIds s.o_page s.g_page_stack (nI 88) (nI n) = (ex_Macros_say N s.o_macros s.g_macros_saidActs s.g_macros_saidIds (nI n)).bind (fun u_1 => some (u_1.1, u_1.2.1, u_1.2.2, s.o_page, s.g_page_stack)) := by
      unfold ex_Interpreter_doStackAndMacros
      rw [if_neg n83, if_neg n83, if_neg n89, if_pos (show nI 88 = 88 from rfl)]
    by_cases q8 : c = 8
    · refine oc_id h ?_ ?_
      · rw [go]; unfold kStack
        refine Option.map_eq_some_iff.mpr ⟨(s.o_macros, s.g_macros_saidActs, s.g_macros_saidIds, s.o_page, s.g_page_stack), ?_, rfl⟩
        rw [un]; unfold ex_Macros_say
        rw [d2, if_pos (show (8 : Int32) ≤ nI c by rw [q8]; decide)]; rfl
      · exact mo_Xf y0 y1 y3 (by rw [d3, q8]; decide) y2 ⟨bv1, bv2⟩ rfl
    · have hc8 : c < 8 := by omega
      have cl : (nI c).toNatClampNeg = c := iI_clamp (z := (c : Int)) (by omega)
      have din : dk_in (nI c) 8 := nI_in (by omega) (by omega)
      obtain ⟨x, hx⟩ : ∃ x, x = kMc s (fs_Macros_said s.o_macros (nI (c + 1))) (upd s.g_macros_saidActs c (nI n)) (upd s.g_macros_saidIds c (nI i)) := ⟨_, rfl⟩
      obtain ⟨m3, hm⟩ : ∃ m3, m3 = mXY m (fs_Ref_xMany m.o_this (nI (c + 1))) (upd m.g_xWhat c (nI n)) (upd m.g_xId c (nI i)) := ⟨_, rfl⟩
      have k1 : kDo N s (nI 9830) = some x := by
        rw [go]; unfold kStack
        refine Option.map_eq_some_iff.mpr ⟨(fs_Macros_said s.o_macros (nI (c + 1)), upd s.g_macros_saidActs c (nI n), upd s.g_macros_saidIds c (nI i), s.o_page, s.g_page_stack), ?_, hx.symm⟩
        rw [un]; unfold ex_Macros_say
        rw [d2, if_neg (show ¬ (8 : Int32) ≤ nI c from nI_ge (b := 8) hc8 (by omega)), if_pos din, hi1]
        simp only [dk_let, if_pos din, Option.bind_some]
        rw [cl, nI_1]
      have k2 : mOther N m = some m3 := by
        refine mo_X y0 y1 y3 d3 hc8 y2 ⟨bv1, bv2⟩ ?_
        rw [hm, hnd, d3, cl, hi2, nI_1]
      subst hx; subst hm
      refine ⟨_, _, k, r, cp, p, k1, k2, ⟨hPg, ⟨hSh.1.mono (by omega), hSh.2⟩, hFo, rsR_mono (by omega) hRa, ⟨mcS_mono (T' := T + 4) (by omega) m1, m2, ⟨i, hi0, hi1, hi2⟩, hhd⟩, hFl, hFa, hIt⟩, ⟨c + 1, by omega, rfl, rfl, agree_add _ d4, agree_add _ d5, ?_⟩, dkF.refl _, hcm, rfl, itS_refl s, rfM_refl m, kfG_refl s⟩
      intro j hj
      show ∃ w j' : Nat, w ≤ 32767 ∧ j' ≤ 32767 ∧ upd m.g_xWhat c (nI n) j = nI w ∧ upd m.g_xId c (nI i) j = nI j'
      by_cases qj : j = c
      · refine ⟨n, i, hn, hi0, ?_, ?_⟩ <;> (unfold upd; rw [if_pos qj])
      · obtain ⟨w, j', w1, w2, w3, w4⟩ := d6 j (by omega)
        refine ⟨w, j', w1, w2, ?_, ?_⟩ <;> (unfold upd; rw [if_neg qj]; assumption)
  have n88 : ¬ nI e = 88 := ne 88 (by omega) q88
  refine oc_id h ?_ ?_
  · rw [go]; unfold kStack
    refine Option.map_eq_some_iff.mpr ⟨(s.o_macros, s.g_macros_saidActs, s.g_macros_saidIds, s.o_page, s.g_page_stack), ?_, rfl⟩
    unfold ex_Interpreter_doStackAndMacros
    rw [if_neg n83, if_neg n83, if_neg n89, if_neg n88]
  · exact mo_no4 y0 y1 (by rw [y3]; exact n89) (by rw [y3]; exact n88) y2 ⟨bv1, bv2⟩ rfl
def kFn (s : CS) (o : ob_FontShelf) (ids at_ pm gl dt ws pn cm : Nat → Int32) : CS := ((s.1, s.2.1, s.2.2.1, s.2.2.2.1, s.2.2.2.2.1, s.2.2.2.2.2.1, s.2.2.2.2.2.2.1, s.2.2.2.2.2.2.2.1, s.2.2.2.2.2.2.2.2.1, s.2.2.2.2.2.2.2.2.2.1, (o, ids, at_, pm, gl, dt, ws, pn, s.g_fonts_chosen, s.g_fonts_left, cm), s.2.2.2.2.2.2.2.2.2.2.2) : CS)
def mFn (m : RS) (o : ob_mShelf) (ids at_ pm gl st dr ws pn cm by_ : Nat → Int32) : RS := ((m.1, m.2.1, m.2.2.1, m.2.2.2.1, m.2.2.2.2.1, (o, ids, at_, pm, gl, st, dr, ws, pn, cm, by_, m.g_shelf_left), m.2.2.2.2.2.2.1, m.2.2.2.2.2.2.2.1, m.2.2.2.2.2.2.2.2.1, m.2.2.2.2.2.2.2.2.2) : RS)
/-- a command to the fonts, on both sides -/
theorem oc_fo {N d k r cp T f gr e mm K : Nat} {v : Int} {p : Nat → Nat} {s x : CS} {m m3 : RS} {o : ob_FontShelf} {ids at_ pm gl dt ws pn cm : Nat → Int32} {om : ob_mShelf} {ids' at' pm' gl' st dr ws' pn' cm' by_ : Nat → Int32} (h : oH N d k r cp T f gr e mm v p s m) (hx : x = kFn s o ids at_ pm gl dt ws pn cm) (hm : m3 = mFn m om ids' at' pm' gl' st dr ws' pn' cm' by_) (k1 : kDo N s (nI K) = some x) (k2 : mOther N m = some m3) (hf : ∃ F n u, slR F n u o om ids pm at_ gl dt ids' pm' at' gl' st ∧ wsR ws pn ws' pn' ∧ (fd_FontShelf_chosenKnown o = 0 ∨ (fd_FontShelf_chosenKnown o = 1 ∧ chM N F pn' ids' ws' at' pm' s.g_fonts_chosen))) : oR N d T K s m := by
  subst hx; subst hm
  obtain ⟨⟨hPg, hSh, hFo, hRa, hMa, hFl, hFa, hIt⟩, hSd, hcm, _⟩ := h
  exact ⟨_, _, k, r, cp, p, k1, k2, ⟨hPg, ⟨hSh.1.mono (by omega), hSh.2⟩, hf, rsR_mono (T := T) (by omega) hRa, ⟨mcS_mono (T := T) (by omega) hMa.1, hMa.2⟩, hFl, hFa, hIt⟩, hSd, dkF.refl _, hcm, rfl, itS_refl s, rfM_refl m, kfG_refl s⟩
/-- a measure of the rules, on both sides -/
theorem oc_ru {N d k r cp T f gr e mm K : Nat} {v : Int} {p : Nat → Nat} {s x : CS} {m m3 : RS} {o : ob_Sheet} {or : ob_Ref} (h : oH N d k r cp T f gr e mm v p s m) (hx : x = kSh s o) (hm : m3 = mXY m or m.g_xWhat m.g_xId) (k1 : kDo N s (nI K) = some x) (k2 : mOther N m = some m3) (hd : fd_Sheet_due o = fd_Sheet_due s.o_sheet) (hs : ∀ sd, shR k r d s.o_sheet m.o_sheet s.g_sheet_marks s.g_sheet_dots m.g_sheet_dots sd m.n_sheet_dots → shR k r d o m.o_sheet s.g_sheet_marks s.g_sheet_dots m.g_sheet_dots sd m.n_sheet_dots) (hb : fd_Sheet_bandLines o = fd_Sheet_bandLines s.o_sheet) (hru : ∀ a b c, ruR s.o_sheet m.o_this a b c → ∃ a b c, ruR o or a b c) (hra : ∀ T, rsR d T s.o_raster m.o_this s.g_raster_seed m.g_seed → rsR d T s.o_raster or s.g_raster_seed m.g_seed) (f1 : fd_Ref_thrown or = fd_Ref_thrown m.o_this) (f2 : fd_Ref_dpi or = fd_Ref_dpi m.o_this) (f3 : fd_Ref_onTape or = fd_Ref_onTape m.o_this) (f4 : fd_Ref_fault or = fd_Ref_fault m.o_this) (f5 : fd_Ref_jobs or = fd_Ref_jobs m.o_this) (f6 : fd_Ref_had or = fd_Ref_had m.o_this) (f7 : fd_Ref_comeTo or = fd_Ref_comeTo m.o_this) (f8 : fd_Ref_macroId or = fd_Ref_macroId m.o_this) (f9 : fd_Ref_overruns or = fd_Ref_overruns m.o_this) (f13 : fd_Ref_viewLine or = fd_Ref_viewLine m.o_this) (f14 : fd_Ref_viewPage or = fd_Ref_viewPage m.o_this) (f15 : fd_Ref_xMany or = fd_Ref_xMany m.o_this) : oR N d T K s m := by
  subst hx; subst hm
  obtain ⟨⟨⟨g1, g2, g3, g4, g5, g6, g7, g8, g9, g10⟩, ⟨a1, a2, ⟨sd, q1, q2⟩, a4, ⟨⟨BL, b1, b2⟩, b5⟩, ⟨y1, y2, y3, hr⟩⟩, hFo, hRa, ⟨m1, m2, ⟨i, hi0, hi1, hi2⟩, ⟨hh, hh0, hh1, hh2⟩⟩, ⟨l1, l2, l3, l4, l5, l6⟩, ⟨fa1, fa2⟩, hIt⟩, ⟨c, c1, c2, c3, c4⟩, hcm, _⟩ := h
  exact ⟨_, _, k, r, cp, p, k1, k2, ⟨⟨g1, g2, g3, g4, g5, g6, g7, g8, g9, f2.trans g10⟩, ⟨a1.mono (by omega), hd.trans a2, ⟨sd, hs sd q1, q2⟩, a4, ⟨⟨BL, hb.trans b1, b2⟩, b5⟩, hru y1 y2 y3 hr⟩, hFo, hra _ (rsR_mono (T' := T + 4) (by omega) hRa), ⟨mcS_mono (by omega) m1, m2, ⟨i, hi0, hi1, f8.trans hi2⟩, ⟨hh, hh0, hh1, f6.trans hh2⟩⟩, ⟨l1, l2, l3, l4, l5, l6.trans f9.symm⟩, ⟨fa1, f4.trans fa2⟩, hIt⟩, ⟨c, c1, c2, f15.trans c3, c4⟩, dkF.refl _, hcm, rfl, itS_refl s, ⟨f6, rfl, rfl, rfl, rfl, rfl, rfl, rfl, rfl, rfl, rfl, rfl, rfl, ⟨f1, f2, f3, f5, f7, f14, f13⟩, rfl, rfl, rfl, rfl, rfl, rfl, rfl, rfl, rfl, rfl, rfl, rfl, rfl, rfl, rfl, rfl, rfl, rfl, rfl, rfl, rfl, rfl, rfl, rfl, rfl, rfl, rfl, rfl, rfl, rfl⟩, kfG_refl s⟩

theorem fr_65 {N : Nat} (oi : ob_Interpreter) (o : ob_Sheet) (of_ : ob_FontShelf) (ids at_ pm gl dt : Nat → Int32) (op : ob_Page) (gmk : Nat → Int32) (v1 : Int32) (v2 : Int64) : ex_Interpreter_doFontsAndRules N oi o of_ ids at_ pm gl dt op gmk (nI 65) v1 v2 = (ex_Sheet_setRuleWidth N o ((24 * v1).toInt64)).bind (fun u => some (u, of_, ids, at_, pm, gl, dt, gmk)) := by
  unfold ex_Interpreter_doFontsAndRules
  rw [if_pos (show nI 65 = 65 from rfl)]

theorem fr_66 {N : Nat} (oi : ob_Interpreter) (o : ob_Sheet) (of_ : ob_FontShelf) (ids at_ pm gl dt : Nat → Int32) (op : ob_Page) (gmk : Nat → Int32) (v1 : Int32) (v2 : Int64) : ex_Interpreter_doFontsAndRules N oi o of_ ids at_ pm gl dt op gmk (nI 66) v1 v2 = (ex_Sheet_setRuleHeight N o ((24 * v1).toInt64)).bind (fun u => some (u, of_, ids, at_, pm, gl, dt, gmk)) := by
  unfold ex_Interpreter_doFontsAndRules
  rw [if_neg (show ¬ nI 66 = 65 by decide), if_pos (show nI 66 = 66 from rfl)]

theorem fr_68 {N : Nat} (oi : ob_Interpreter) (o : ob_Sheet) (of_ : ob_FontShelf) (ids at_ pm gl dt : Nat → Int32) (op : ob_Page) (gmk : Nat → Int32) (v1 : Int32) (v2 : Int64) : ex_Interpreter_doFontsAndRules N oi o of_ ids at_ pm gl dt op gmk (nI 68) v1 v2 = (ex_FontShelf_setId N of_ v1).bind (fun u => some (o, u, ids, at_, pm, gl, dt, gmk)) := by
  unfold ex_Interpreter_doFontsAndRules
  rw [if_neg (show ¬ nI 68 = 65 by decide), if_neg (show ¬ nI 68 = 66 by decide), if_neg (show ¬ nI 68 = 67 by decide), if_pos (show nI 68 = 68 from rfl)]

theorem fr_69 {N : Nat} (oi : ob_Interpreter) (o : ob_Sheet) (of_ : ob_FontShelf) (ids at_ pm gl dt : Nat → Int32) (op : ob_Page) (gmk : Nat → Int32) (v1 : Int32) (v2 : Int64) : ex_Interpreter_doFontsAndRules N oi o of_ ids at_ pm gl dt op gmk (nI 69) v1 v2 = (ex_FontShelf_setCode N of_ v1).bind (fun u => some (o, u, ids, at_, pm, gl, dt, gmk)) := by
  unfold ex_Interpreter_doFontsAndRules
  rw [if_neg (show ¬ nI 69 = 65 by decide), if_neg (show ¬ nI 69 = 66 by decide), if_neg (show ¬ nI 69 = 67 by decide), if_neg (show ¬ nI 69 = 68 by decide), if_pos (show nI 69 = 69 from rfl)]

theorem fr_70 {N : Nat} (oi : ob_Interpreter) (o : ob_Sheet) (of_ : ob_FontShelf) (ids at_ pm gl dt : Nat → Int32) (op : ob_Page) (gmk : Nat → Int32) (v1 : Int32) (v2 : Int64) : ex_Interpreter_doFontsAndRules N oi o of_ ids at_ pm gl dt op gmk (nI 70) v1 v2 = (if v1 = (1 : Int32) then ((ex_FontShelf_dropPassing N of_ pm ids at_ gl dt).bind (fun u => some (o, u.1, u.2.2.1, u.2.2.2.1, u.2.1, u.2.2.2.2.1, u.2.2.2.2.2, gmk))) else ((ex_FontShelf_manage N of_ ids pm gl dt at_ v1).bind (fun u => some (o, u.1, u.2.1, u.2.2.2.2.2, u.2.2.1, u.2.2.2.1, u.2.2.2.2.1, gmk)))) := by
  unfold ex_Interpreter_doFontsAndRules
  rw [if_neg (show ¬ nI 70 = 65 by decide), if_neg (show ¬ nI 70 = 66 by decide), if_neg (show ¬ nI 70 = 67 by decide), if_neg (show ¬ nI 70 = 68 by decide), if_neg (show ¬ nI 70 = 69 by decide), if_pos (show nI 70 = 70 from rfl)]

theorem fr_71 {N : Nat} (oi : ob_Interpreter) (o : ob_Sheet) (of_ : ob_FontShelf) (ids at_ pm gl dt : Nat → Int32) (op : ob_Page) (gmk : Nat → Int32) (v1 : Int32) (v2 : Int64) : ex_Interpreter_doFontsAndRules N oi o of_ ids at_ pm gl dt op gmk (nI 71) v1 v2 = (ex_Sheet_setPattern N o v1).bind (fun u => some (u, of_, ids, at_, pm, gl, dt, gmk)) := by
  unfold ex_Interpreter_doFontsAndRules
  rw [if_neg (show ¬ nI 71 = 65 by decide), if_neg (show ¬ nI 71 = 66 by decide), if_neg (show ¬ nI 71 = 67 by decide), if_neg (show ¬ nI 71 = 68 by decide), if_neg (show ¬ nI 71 = 69 by decide), if_neg (show ¬ nI 71 = 70 by decide), if_pos (show nI 71 = 71 from rfl)]

theorem fr_72 {N : Nat} (oi : ob_Interpreter) (o : ob_Sheet) (of_ : ob_FontShelf) (ids at_ pm gl dt : Nat → Int32) (op : ob_Page) (gmk : Nat → Int32) (v1 : Int32) (v2 : Int64) : ex_Interpreter_doFontsAndRules N oi o of_ ids at_ pm gl dt op gmk (nI 72) v1 v2 = (ex_Sheet_setRuleWidth N o ((10 * v2) / 10000)).bind (fun u => some (u, of_, ids, at_, pm, gl, dt, gmk)) := by
  unfold ex_Interpreter_doFontsAndRules
  rw [if_neg (show ¬ nI 72 = 65 by decide), if_neg (show ¬ nI 72 = 66 by decide), if_neg (show ¬ nI 72 = 67 by decide), if_neg (show ¬ nI 72 = 68 by decide), if_neg (show ¬ nI 72 = 69 by decide), if_neg (show ¬ nI 72 = 70 by decide), if_neg (show ¬ nI 72 = 71 by decide), if_pos (show nI 72 = 72 from rfl)]

theorem fr_80 {N : Nat} (oi : ob_Interpreter) (o : ob_Sheet) (of_ : ob_FontShelf) (ids at_ pm gl dt : Nat → Int32) (op : ob_Page) (gmk : Nat → Int32) (v1 : Int32) (v2 : Int64) : ex_Interpreter_doFontsAndRules N oi o of_ ids at_ pm gl dt op gmk (nI 80) v1 v2 = (ex_Sheet_layRule N o op gmk v1).bind (fun u => some (u.1, of_, ids, at_, pm, gl, dt, u.2)) := by
  unfold ex_Interpreter_doFontsAndRules
  rw [if_neg (show ¬ nI 80 = 65 by decide), if_neg (show ¬ nI 80 = 66 by decide), if_neg (show ¬ nI 80 = 67 by decide), if_neg (show ¬ nI 80 = 68 by decide), if_neg (show ¬ nI 80 = 69 by decide), if_neg (show ¬ nI 80 = 70 by decide), if_neg (show ¬ nI 80 = 71 by decide), if_neg (show ¬ nI 80 = 72 by decide), if_neg (show ¬ nI 80 = 73 by decide), if_neg (show ¬ nI 80 = 74 by decide), if_neg (show ¬ nI 80 = 75 by decide), if_neg (show ¬ nI 80 = 76 by decide), if_neg (show ¬ nI 80 = 77 by decide), if_neg (show ¬ nI 80 = 78 by decide), if_neg (show ¬ nI 80 = 79 by decide), if_pos (show nI 80 = 80 from rfl)]

theorem fr_86 {N : Nat} (oi : ob_Interpreter) (o : ob_Sheet) (of_ : ob_FontShelf) (ids at_ pm gl dt : Nat → Int32) (op : ob_Page) (gmk : Nat → Int32) (v1 : Int32) (v2 : Int64) : ex_Interpreter_doFontsAndRules N oi o of_ ids at_ pm gl dt op gmk (nI 86) v1 v2 = (ex_Sheet_setRuleHeight N o ((10 * v2) / 10000)).bind (fun u => some (u, of_, ids, at_, pm, gl, dt, gmk)) := by
  unfold ex_Interpreter_doFontsAndRules
  rw [if_neg (show ¬ nI 86 = 65 by decide), if_neg (show ¬ nI 86 = 66 by decide), if_neg (show ¬ nI 86 = 67 by decide), if_neg (show ¬ nI 86 = 68 by decide), if_neg (show ¬ nI 86 = 69 by decide), if_neg (show ¬ nI 86 = 70 by decide), if_neg (show ¬ nI 86 = 71 by decide), if_neg (show ¬ nI 86 = 72 by decide), if_neg (show ¬ nI 86 = 73 by decide), if_neg (show ¬ nI 86 = 74 by decide), if_neg (show ¬ nI 86 = 75 by decide), if_neg (show ¬ nI 86 = 76 by decide), if_neg (show ¬ nI 86 = 77 by decide), if_neg (show ¬ nI 86 = 78 by decide), if_neg (show ¬ nI 86 = 79 by decide), if_neg (show ¬ nI 86 = 80 by decide), if_neg (show ¬ nI 86 = 81 by decide), if_neg (show ¬ nI 86 = 82 by decide), if_neg (show ¬ nI 86 = 83 by decide), if_neg (show ¬ nI 86 = 84 by decide), if_neg (show ¬ nI 86 = 85 by decide), if_pos (show nI 86 = 86 from rfl)]

theorem fr_no {N e : Nat} (oi : ob_Interpreter) (o : ob_Sheet) (of_ : ob_FontShelf) (ids at_ pm gl dt : Nat → Int32) (op : ob_Page) (gmk : Nat → Int32) (v1 : Int32) (v2 : Int64) (he : e < 256) (hn : e ≠ 65 ∧ e ≠ 66 ∧ e ≠ 68 ∧ e ≠ 69 ∧ e ≠ 70 ∧ e ≠ 71 ∧ e ≠ 72 ∧ e ≠ 80 ∧ e ≠ 86) : ex_Interpreter_doFontsAndRules N oi o of_ ids at_ pm gl dt op gmk (nI e) v1 v2 = some (o, of_, ids, at_, pm, gl, dt, gmk) := by
  have ne : ∀ j : Nat, j < 256 → e ≠ j → ¬ nI e = nI j := fun j hj hne => mt (nI_eq (by omega) (by omega)).mp hne
  unfold ex_Interpreter_doFontsAndRules
  simp only [if_neg (show ¬ nI e = 65 from ne 65 (by omega) (by omega)), if_neg (show ¬ nI e = 66 from ne 66 (by omega) (by omega)), if_neg (show ¬ nI e = 68 from ne 68 (by omega) (by omega)), if_neg (show ¬ nI e = 69 from ne 69 (by omega) (by omega)), if_neg (show ¬ nI e = 70 from ne 70 (by omega) (by omega)), if_neg (show ¬ nI e = 71 from ne 71 (by omega) (by omega)), if_neg (show ¬ nI e = 72 from ne 72 (by omega) (by omega)), if_neg (show ¬ nI e = 80 from ne 80 (by omega) (by omega)), if_neg (show ¬ nI e = 86 from ne 86 (by omega) (by omega)), ite_self]
theorem fq_68 {N : Nat} (or : ob_Ref) (od : ob_mDesk) (os : ob_mSheet) (gS : Nat → Int32) (nd : Nat) (b : Nat → Int64) (sh : ob_mShelf) (ids pm at_ gl st : Nat → Int32) (v1 v2 : Int32) : ex_Ref_fontOrRule N or od os gS nd b sh ids pm at_ gl st (nI 68) v1 v2 = (ex_mShelf_hand N sh 0 v1).bind (fun u => some (or, od, os, b, u.1, ids, pm, at_, gl, st)) := by
  unfold ex_Ref_fontOrRule
  rw [if_pos (show nI 68 = 68 from rfl)]

theorem fq_69 {N : Nat} (or : ob_Ref) (od : ob_mDesk) (os : ob_mSheet) (gS : Nat → Int32) (nd : Nat) (b : Nat → Int64) (sh : ob_mShelf) (ids pm at_ gl st : Nat → Int32) (v1 v2 : Int32) : ex_Ref_fontOrRule N or od os gS nd b sh ids pm at_ gl st (nI 69) v1 v2 = (ex_mShelf_hand N sh 1 v1).bind (fun u => some (or, od, os, b, u.1, ids, pm, at_, gl, st)) := by
  unfold ex_Ref_fontOrRule
  rw [if_neg (show ¬ nI 69 = 68 by decide), if_pos (show nI 69 = 69 from rfl)]

theorem fq_65 {N : Nat} (or : ob_Ref) (od : ob_mDesk) (os : ob_mSheet) (gS : Nat → Int32) (nd : Nat) (b : Nat → Int64) (sh : ob_mShelf) (ids pm at_ gl st : Nat → Int32) (v1 v2 : Int32) : ex_Ref_fontOrRule N or od os gS nd b sh ids pm at_ gl st (nI 65) v1 v2 = some (fs_Ref_ruleWide or (24 * v1), od, os, b, sh, ids, pm, at_, gl, st) := by
  unfold ex_Ref_fontOrRule
  rw [if_neg (show ¬ nI 65 = 68 by decide), if_neg (show ¬ nI 65 = 69 by decide), if_neg (show ¬ nI 65 = 70 by decide), if_pos (show nI 65 = 65 from rfl)]

theorem fq_72 {N : Nat} (or : ob_Ref) (od : ob_mDesk) (os : ob_mSheet) (gS : Nat → Int32) (nd : Nat) (b : Nat → Int64) (sh : ob_mShelf) (ids pm at_ gl st : Nat → Int32) (v1 v2 : Int32) : ex_Ref_fontOrRule N or od os gS nd b sh ids pm at_ gl st (nI 72) v1 v2 = some (fs_Ref_ruleWide or v2, od, os, b, sh, ids, pm, at_, gl, st) := by
  unfold ex_Ref_fontOrRule
  rw [if_neg (show ¬ nI 72 = 68 by decide), if_neg (show ¬ nI 72 = 69 by decide), if_neg (show ¬ nI 72 = 70 by decide), if_neg (show ¬ nI 72 = 65 by decide), if_pos (show nI 72 = 72 from rfl)]

theorem fq_66 {N : Nat} (or : ob_Ref) (od : ob_mDesk) (os : ob_mSheet) (gS : Nat → Int32) (nd : Nat) (b : Nat → Int64) (sh : ob_mShelf) (ids pm at_ gl st : Nat → Int32) (v1 v2 : Int32) : ex_Ref_fontOrRule N or od os gS nd b sh ids pm at_ gl st (nI 66) v1 v2 = some (fs_Ref_ruleHigh or (24 * v1), od, os, b, sh, ids, pm, at_, gl, st) := by
  unfold ex_Ref_fontOrRule
  rw [if_neg (show ¬ nI 66 = 68 by decide), if_neg (show ¬ nI 66 = 69 by decide), if_neg (show ¬ nI 66 = 70 by decide), if_neg (show ¬ nI 66 = 65 by decide), if_neg (show ¬ nI 66 = 72 by decide), if_pos (show nI 66 = 66 from rfl)]

theorem fq_86 {N : Nat} (or : ob_Ref) (od : ob_mDesk) (os : ob_mSheet) (gS : Nat → Int32) (nd : Nat) (b : Nat → Int64) (sh : ob_mShelf) (ids pm at_ gl st : Nat → Int32) (v1 v2 : Int32) : ex_Ref_fontOrRule N or od os gS nd b sh ids pm at_ gl st (nI 86) v1 v2 = some (fs_Ref_ruleHigh or v2, od, os, b, sh, ids, pm, at_, gl, st) := by
  unfold ex_Ref_fontOrRule
  rw [if_neg (show ¬ nI 86 = 68 by decide), if_neg (show ¬ nI 86 = 69 by decide), if_neg (show ¬ nI 86 = 70 by decide), if_neg (show ¬ nI 86 = 65 by decide), if_neg (show ¬ nI 86 = 72 by decide), if_neg (show ¬ nI 86 = 66 by decide), if_pos (show nI 86 = 86 from rfl)]

theorem fq_71 {N : Nat} (or : ob_Ref) (od : ob_mDesk) (os : ob_mSheet) (gS : Nat → Int32) (nd : Nat) (b : Nat → Int64) (sh : ob_mShelf) (ids pm at_ gl st : Nat → Int32) (v1 v2 : Int32) : ex_Ref_fontOrRule N or od os gS nd b sh ids pm at_ gl st (nI 71) v1 v2 = some (fs_Ref_pattern or v1, od, os, b, sh, ids, pm, at_, gl, st) := by
  unfold ex_Ref_fontOrRule
  rw [if_neg (show ¬ nI 71 = 68 by decide), if_neg (show ¬ nI 71 = 69 by decide), if_neg (show ¬ nI 71 = 70 by decide), if_neg (show ¬ nI 71 = 65 by decide), if_neg (show ¬ nI 71 = 72 by decide), if_neg (show ¬ nI 71 = 66 by decide), if_neg (show ¬ nI 71 = 86 by decide), if_pos (show nI 71 = 71 from rfl)]

theorem fq_80 {N : Nat} (or : ob_Ref) (od : ob_mDesk) (os : ob_mSheet) (gS : Nat → Int32) (nd : Nat) (b : Nat → Int64) (sh : ob_mShelf) (ids pm at_ gl st : Nat → Int32) (v1 v2 : Int32) : ex_Ref_fontOrRule N or od os gS nd b sh ids pm at_ gl st (nI 80) v1 v2 = (ex_Ref_rule N or od os gS nd b v1).bind (fun u => some (or, u.1, u.2.1, u.2.2, sh, ids, pm, at_, gl, st)) := by
  unfold ex_Ref_fontOrRule
  rw [if_neg (show ¬ nI 80 = 68 by decide), if_neg (show ¬ nI 80 = 69 by decide), if_neg (show ¬ nI 80 = 70 by decide), if_neg (show ¬ nI 80 = 65 by decide), if_neg (show ¬ nI 80 = 72 by decide), if_neg (show ¬ nI 80 = 66 by decide), if_neg (show ¬ nI 80 = 86 by decide), if_neg (show ¬ nI 80 = 71 by decide), if_pos (show nI 80 = 80 from rfl)]

theorem fq_70a {N n : Nat} (or : ob_Ref) (od : ob_mDesk) (os : ob_mSheet) (gS : Nat → Int32) (nd : Nat) (b : Nat → Int64) (sh : ob_mShelf) (ids pm at_ gl st : Nat → Int32) (v2 : Int32) (hn : n ≤ 3) : ex_Ref_fontOrRule N or od os gS nd b sh ids pm at_ gl st (nI 70) (nI n) v2 = (ex_mShelf_drop N sh ids at_ pm gl st (nI n)).bind (fun u => some (or, od, os, b, u.1, u.2.1, u.2.2.2.1, u.2.2.1, u.2.2.2.2.1, u.2.2.2.2.2.1)) := by
  unfold ex_Ref_fontOrRule
  rw [if_neg (show ¬ nI 70 = 68 by decide), if_neg (show ¬ nI 70 = 69 by decide), if_pos (show nI 70 = 70 from rfl), if_neg (show ¬ (4 : Int32) ≤ nI n from nI_ge (b := 4) (by omega) (by omega))]
  simp only [if_pos (show nI n ≤ 3 from nI_le (b := 3) hn (by omega))]

theorem fq_70b {N : Nat} (or : ob_Ref) (od : ob_mDesk) (os : ob_mSheet) (gS : Nat → Int32) (nd : Nat) (b : Nat → Int64) (sh : ob_mShelf) (ids pm at_ gl st : Nat → Int32) (v2 : Int32) : ex_Ref_fontOrRule N or od os gS nd b sh ids pm at_ gl st (nI 70) (nI 4) v2 = (ex_mShelf_permanent N sh ids pm (nI 0)).bind (fun u => some (or, od, os, b, u.1, ids, u.2.1, at_, gl, st)) := by
  unfold ex_Ref_fontOrRule
  rw [if_neg (show ¬ nI 70 = 68 by decide), if_neg (show ¬ nI 70 = 69 by decide), if_pos (show nI 70 = 70 from rfl), if_pos (show (4 : Int32) ≤ nI 4 by decide), if_neg (show ¬ nI 4 ≤ 3 by decide), if_neg (show ¬ (6 : Int32) ≤ nI 4 by decide), if_neg (show ¬ nI 4 = 5 by decide)]
  simp only [ite_self]
  rfl

theorem fq_70c {N : Nat} (or : ob_Ref) (od : ob_mDesk) (os : ob_mSheet) (gS : Nat → Int32) (nd : Nat) (b : Nat → Int64) (sh : ob_mShelf) (ids pm at_ gl st : Nat → Int32) (v2 : Int32) : ex_Ref_fontOrRule N or od os gS nd b sh ids pm at_ gl st (nI 70) (nI 5) v2 = (ex_mShelf_permanent N sh ids pm (nI 1)).bind (fun u => some (or, od, os, b, u.1, ids, u.2.1, at_, gl, st)) := by
  unfold ex_Ref_fontOrRule
  rw [if_neg (show ¬ nI 70 = 68 by decide), if_neg (show ¬ nI 70 = 69 by decide), if_pos (show nI 70 = 70 from rfl), if_pos (show (4 : Int32) ≤ nI 5 by decide), if_neg (show ¬ nI 5 ≤ 3 by decide), if_neg (show ¬ (6 : Int32) ≤ nI 5 by decide), if_pos (show nI 5 = 5 from rfl)]
  simp only [ite_self]
  rfl

theorem fq_70d {N n : Nat} (or : ob_Ref) (od : ob_mDesk) (os : ob_mSheet) (gS : Nat → Int32) (nd : Nat) (b : Nat → Int64) (sh : ob_mShelf) (ids pm at_ gl st : Nat → Int32) (v2 : Int32) (h6 : 6 ≤ n) (hn : n ≤ 32767) : ex_Ref_fontOrRule N or od os gS nd b sh ids pm at_ gl st (nI 70) (nI n) v2 = some (or, od, os, b, sh, ids, pm, at_, gl, st) := by
  unfold ex_Ref_fontOrRule
  rw [if_neg (show ¬ nI 70 = 68 by decide), if_neg (show ¬ nI 70 = 69 by decide), if_pos (show nI 70 = 70 from rfl), if_pos (show (4 : Int32) ≤ nI n from nI_le (a := 4) (by omega) (by omega)), if_neg (show ¬ nI n ≤ 3 from nI_ge (a := 3) (by omega) (by omega)), if_pos (show (6 : Int32) ≤ nI n from nI_le (a := 6) (by omega) (by omega))]

theorem fq_no {N e : Nat} (or : ob_Ref) (od : ob_mDesk) (os : ob_mSheet) (gS : Nat → Int32) (nd : Nat) (b : Nat → Int64) (sh : ob_mShelf) (ids pm at_ gl st : Nat → Int32) (v1 v2 : Int32) (he : e < 256) (hn : e ≠ 65 ∧ e ≠ 66 ∧ e ≠ 68 ∧ e ≠ 69 ∧ e ≠ 70 ∧ e ≠ 71 ∧ e ≠ 72 ∧ e ≠ 80 ∧ e ≠ 86) : ex_Ref_fontOrRule N or od os gS nd b sh ids pm at_ gl st (nI e) v1 v2 = some (or, od, os, b, sh, ids, pm, at_, gl, st) := by
  have ne : ∀ j : Nat, j < 256 → e ≠ j → ¬ nI e = nI j := fun j hj hne => mt (nI_eq (by omega) (by omega)).mp hne
  unfold ex_Ref_fontOrRule
  simp only [if_neg (show ¬ nI e = 68 from ne 68 (by omega) (by omega)), if_neg (show ¬ nI e = 69 from ne 69 (by omega) (by omega)), if_neg (show ¬ nI e = 70 from ne 70 (by omega) (by omega)), if_neg (show ¬ nI e = 65 from ne 65 (by omega) (by omega)), if_neg (show ¬ nI e = 72 from ne 72 (by omega) (by omega)), if_neg (show ¬ nI e = 66 from ne 66 (by omega) (by omega)), if_neg (show ¬ nI e = 86 from ne 86 (by omega) (by omega)), if_neg (show ¬ nI e = 71 from ne 71 (by omega) (by omega)), if_neg (show ¬ nI e = 80 from ne 80 (by omega) (by omega))]

theorem l24 {n : Nat} (hn : n ≤ 32767) : ((24 * nI n).toInt64).toInt32 = nI (24 * n) ∧ 24 * nI n = nI (24 * n) := by
  have e : 24 * nI n = nI (24 * n) := nI_Lmul n 24
  rw [e, nI_lI (by omega), lI_i]; exact ⟨rfl, rfl⟩
theorem l1000 {v : Int} (hv : -327679999 ≤ v ∧ v ≤ 327679999) : ((10 * lI (v.toNat : Int)) / 10000).toInt32 = nI (v.toNat / 1000) := by
  have e : 10 * lI (v.toNat : Int) = lI (10 * (v.toNat : Int)) := lI_mul 10 _
  have e2 : lI (10 * (v.toNat : Int)) / 10000 = lI ((10 * (v.toNat : Int)).tdiv 10000) := lI_div (b := 10000) (by omega) (by omega)
  rw [e, e2, lI_i, Int.tdiv_eq_ediv_of_nonneg (by omega), nI_iI]
  congr 1; omega

theorem oc_cA {N d k r cp T mm : Nat} {v : Int} {p : Nat → Nat} {s : CS} {m : RS} (h : oH N d k r cp T 42 99 65 mm v p s m) : oR N d T 10851 s m := by
  have h' := h
  obtain ⟨hC, hSd, hcm, ⟨bf, bg, be, bm, bv1, bv2⟩, c1, c2, c3, hdt, y0, y1, y2, y3, y5⟩ := h'
  obtain ⟨n1, n2⟩ := ps_num (N := N) c2 ⟨bv1, bv2⟩
  have go : kDo N s (nI 10851) = kRules N s (nI 65) (nI (v.toNat / 10000)) (lI (v.toNat : Int)) := by
    rw [kd_10851]
    refine (bind_eq n1).trans ((bind_eq n2).trans ?_)
    rw [c1]
  obtain ⟨n, hnd⟩ : ∃ n, n = v.toNat / 10000 := ⟨_, rfl⟩
  have hn : n ≤ 32767 := by omega
  have ho : ∀ m3, mFoR N m (nI 65) (nI n) (nI (v.toNat / 1000)) = some m3 → mOther N m = some m3 := by
    intro m3 hh
    refine mo_1 y0 y1 y2 ⟨bv1, bv2⟩ ?_
    rw [y3, ← hnd]; exact hh
  rw [← hnd] at go
  refine oc_ru (o := fs_Sheet_ruleWidth s.o_sheet (nI (24 * n))) (or := fs_Ref_ruleWide m.o_this (nI (24 * n))) h rfl rfl ?_ (ho _ ?_) rfl (fun _ hq => hq) rfl ?_ (fun _ hq => hq) rfl rfl rfl rfl rfl rfl rfl rfl rfl rfl rfl rfl
  · rw [go]; unfold kRules
    refine Option.map_eq_some_iff.mpr ⟨(fs_Sheet_ruleWidth s.o_sheet (nI (24 * n)), s.o_fonts, s.g_fonts_ids, s.g_fonts_attributes, s.g_fonts_permanent, s.g_fonts_glyphs, s.g_fonts_dots, s.g_sheet_marks), ?_, rfl⟩
    rw [fr_65]; unfold ex_Sheet_setRuleWidth; rw [(l24 hn).1]; rfl
  · unfold mFoR
    refine Option.map_eq_some_iff.mpr ⟨(fs_Ref_ruleWide m.o_this (nI (24 * n)), m.o_desk, m.o_sheet, m.g_sheet_dots, m.o_shelf, m.g_shelf_ids, m.g_shelf_permanent, m.g_shelf_attributes, m.g_shelf_glyph, m.g_shelf_store), ?_, rfl⟩
    rw [fq_65]; rw [(l24 hn).2]
  · intro a b c hr
    obtain ⟨r1, r2, r3, r4, r5, r6, r7, r8, r9⟩ := hr
    exact ⟨24 * n, b, c, ⟨rfl, rfl, r3, r4, r5, r6, by omega, r8, r9⟩⟩

theorem oc_cB {N d k r cp T mm : Nat} {v : Int} {p : Nat → Nat} {s : CS} {m : RS} (h : oH N d k r cp T 42 99 66 mm v p s m) : oR N d T 10851 s m := by
  have h' := h
  obtain ⟨hC, hSd, hcm, ⟨bf, bg, be, bm, bv1, bv2⟩, c1, c2, c3, hdt, y0, y1, y2, y3, y5⟩ := h'
  obtain ⟨n1, n2⟩ := ps_num (N := N) c2 ⟨bv1, bv2⟩
  have go : kDo N s (nI 10851) = kRules N s (nI 66) (nI (v.toNat / 10000)) (lI (v.toNat : Int)) := by
    rw [kd_10851]
    refine (bind_eq n1).trans ((bind_eq n2).trans ?_)
    rw [c1]
  obtain ⟨n, hnd⟩ : ∃ n, n = v.toNat / 10000 := ⟨_, rfl⟩
  have hn : n ≤ 32767 := by omega
  have ho : ∀ m3, mFoR N m (nI 66) (nI n) (nI (v.toNat / 1000)) = some m3 → mOther N m = some m3 := by
    intro m3 hh
    refine mo_1 y0 y1 y2 ⟨bv1, bv2⟩ ?_
    rw [y3, ← hnd]; exact hh
  rw [← hnd] at go
  refine oc_ru (o := fs_Sheet_ruleHeight s.o_sheet (nI (24 * n))) (or := fs_Ref_ruleHigh m.o_this (nI (24 * n))) h rfl rfl ?_ (ho _ ?_) rfl (fun _ hq => hq) rfl ?_ (fun _ hq => hq) rfl rfl rfl rfl rfl rfl rfl rfl rfl rfl rfl rfl
  · rw [go]; unfold kRules
    refine Option.map_eq_some_iff.mpr ⟨(fs_Sheet_ruleHeight s.o_sheet (nI (24 * n)), s.o_fonts, s.g_fonts_ids, s.g_fonts_attributes, s.g_fonts_permanent, s.g_fonts_glyphs, s.g_fonts_dots, s.g_sheet_marks), ?_, rfl⟩
    rw [fr_66]; unfold ex_Sheet_setRuleHeight; rw [(l24 hn).1]; rfl
  · unfold mFoR
    refine Option.map_eq_some_iff.mpr ⟨(fs_Ref_ruleHigh m.o_this (nI (24 * n)), m.o_desk, m.o_sheet, m.g_sheet_dots, m.o_shelf, m.g_shelf_ids, m.g_shelf_permanent, m.g_shelf_attributes, m.g_shelf_glyph, m.g_shelf_store), ?_, rfl⟩
    rw [fq_66]; rw [(l24 hn).2]
  · intro a b c hr
    obtain ⟨r1, r2, r3, r4, r5, r6, r7, r8, r9⟩ := hr
    exact ⟨a, 24 * n, c, ⟨r1, r2, rfl, rfl, r5, r6, r7, by omega, r9⟩⟩

theorem oc_cH {N d k r cp T mm : Nat} {v : Int} {p : Nat → Nat} {s : CS} {m : RS} (h : oH N d k r cp T 42 99 72 mm v p s m) : oR N d T 10851 s m := by
  have h' := h
  obtain ⟨hC, hSd, hcm, ⟨bf, bg, be, bm, bv1, bv2⟩, c1, c2, c3, hdt, y0, y1, y2, y3, y5⟩ := h'
  obtain ⟨n1, n2⟩ := ps_num (N := N) c2 ⟨bv1, bv2⟩
  have go : kDo N s (nI 10851) = kRules N s (nI 72) (nI (v.toNat / 10000)) (lI (v.toNat : Int)) := by
    rw [kd_10851]
    refine (bind_eq n1).trans ((bind_eq n2).trans ?_)
    rw [c1]
  obtain ⟨n, hnd⟩ : ∃ n, n = v.toNat / 10000 := ⟨_, rfl⟩
  have hn : n ≤ 32767 := by omega
  have ho : ∀ m3, mFoR N m (nI 72) (nI n) (nI (v.toNat / 1000)) = some m3 → mOther N m = some m3 := by
    intro m3 hh
    refine mo_1 y0 y1 y2 ⟨bv1, bv2⟩ ?_
    rw [y3, ← hnd]; exact hh
  rw [← hnd] at go
  refine oc_ru (o := fs_Sheet_ruleWidth s.o_sheet (nI (v.toNat / 1000))) (or := fs_Ref_ruleWide m.o_this (nI (v.toNat / 1000))) h rfl rfl ?_ (ho _ ?_) rfl (fun _ hq => hq) rfl ?_ (fun _ hq => hq) rfl rfl rfl rfl rfl rfl rfl rfl rfl rfl rfl rfl
  · rw [go]; unfold kRules
    refine Option.map_eq_some_iff.mpr ⟨(fs_Sheet_ruleWidth s.o_sheet (nI (v.toNat / 1000)), s.o_fonts, s.g_fonts_ids, s.g_fonts_attributes, s.g_fonts_permanent, s.g_fonts_glyphs, s.g_fonts_dots, s.g_sheet_marks), ?_, rfl⟩
    rw [fr_72]; unfold ex_Sheet_setRuleWidth; rw [l1000 ⟨bv1, bv2⟩]; rfl
  · unfold mFoR
    refine Option.map_eq_some_iff.mpr ⟨(fs_Ref_ruleWide m.o_this (nI (v.toNat / 1000)), m.o_desk, m.o_sheet, m.g_sheet_dots, m.o_shelf, m.g_shelf_ids, m.g_shelf_permanent, m.g_shelf_attributes, m.g_shelf_glyph, m.g_shelf_store), ?_, rfl⟩
    rw [fq_72]
  · intro a b c hr
    obtain ⟨r1, r2, r3, r4, r5, r6, r7, r8, r9⟩ := hr
    exact ⟨v.toNat / 1000, b, c, ⟨rfl, rfl, r3, r4, r5, r6, by omega, r8, r9⟩⟩

theorem oc_cV {N d k r cp T mm : Nat} {v : Int} {p : Nat → Nat} {s : CS} {m : RS} (h : oH N d k r cp T 42 99 86 mm v p s m) : oR N d T 10851 s m := by
  have h' := h
  obtain ⟨hC, hSd, hcm, ⟨bf, bg, be, bm, bv1, bv2⟩, c1, c2, c3, hdt, y0, y1, y2, y3, y5⟩ := h'
  obtain ⟨n1, n2⟩ := ps_num (N := N) c2 ⟨bv1, bv2⟩
  have go : kDo N s (nI 10851) = kRules N s (nI 86) (nI (v.toNat / 10000)) (lI (v.toNat : Int)) := by
    rw [kd_10851]
    refine (bind_eq n1).trans ((bind_eq n2).trans ?_)
    rw [c1]
  obtain ⟨n, hnd⟩ : ∃ n, n = v.toNat / 10000 := ⟨_, rfl⟩
  have hn : n ≤ 32767 := by omega
  have ho : ∀ m3, mFoR N m (nI 86) (nI n) (nI (v.toNat / 1000)) = some m3 → mOther N m = some m3 := by
    intro m3 hh
    refine mo_1 y0 y1 y2 ⟨bv1, bv2⟩ ?_
    rw [y3, ← hnd]; exact hh
  rw [← hnd] at go
  refine oc_ru (o := fs_Sheet_ruleHeight s.o_sheet (nI (v.toNat / 1000))) (or := fs_Ref_ruleHigh m.o_this (nI (v.toNat / 1000))) h rfl rfl ?_ (ho _ ?_) rfl (fun _ hq => hq) rfl ?_ (fun _ hq => hq) rfl rfl rfl rfl rfl rfl rfl rfl rfl rfl rfl rfl
  · rw [go]; unfold kRules
    refine Option.map_eq_some_iff.mpr ⟨(fs_Sheet_ruleHeight s.o_sheet (nI (v.toNat / 1000)), s.o_fonts, s.g_fonts_ids, s.g_fonts_attributes, s.g_fonts_permanent, s.g_fonts_glyphs, s.g_fonts_dots, s.g_sheet_marks), ?_, rfl⟩
    rw [fr_86]; unfold ex_Sheet_setRuleHeight; rw [l1000 ⟨bv1, bv2⟩]; rfl
  · unfold mFoR
    refine Option.map_eq_some_iff.mpr ⟨(fs_Ref_ruleHigh m.o_this (nI (v.toNat / 1000)), m.o_desk, m.o_sheet, m.g_sheet_dots, m.o_shelf, m.g_shelf_ids, m.g_shelf_permanent, m.g_shelf_attributes, m.g_shelf_glyph, m.g_shelf_store), ?_, rfl⟩
    rw [fq_86]
  · intro a b c hr
    obtain ⟨r1, r2, r3, r4, r5, r6, r7, r8, r9⟩ := hr
    exact ⟨a, v.toNat / 1000, c, ⟨r1, r2, rfl, rfl, r5, r6, r7, by omega, r9⟩⟩

theorem oc_cG {N d k r cp T mm : Nat} {v : Int} {p : Nat → Nat} {s : CS} {m : RS} (h : oH N d k r cp T 42 99 71 mm v p s m) : oR N d T 10851 s m := by
  have h' := h
  obtain ⟨hC, hSd, hcm, ⟨bf, bg, be, bm, bv1, bv2⟩, c1, c2, c3, hdt, y0, y1, y2, y3, y5⟩ := h'
  obtain ⟨n1, n2⟩ := ps_num (N := N) c2 ⟨bv1, bv2⟩
  have go : kDo N s (nI 10851) = kRules N s (nI 71) (nI (v.toNat / 10000)) (lI (v.toNat : Int)) := by
    rw [kd_10851]
    refine (bind_eq n1).trans ((bind_eq n2).trans ?_)
    rw [c1]
  obtain ⟨n, hnd⟩ : ∃ n, n = v.toNat / 10000 := ⟨_, rfl⟩
  have hn : n ≤ 32767 := by omega
  have ho : ∀ m3, mFoR N m (nI 71) (nI n) (nI (v.toNat / 1000)) = some m3 → mOther N m = some m3 := by
    intro m3 hh
    refine mo_1 y0 y1 y2 ⟨bv1, bv2⟩ ?_
    rw [y3, ← hnd]; exact hh
  rw [← hnd] at go
  refine oc_ru (o := fs_Sheet_pattern s.o_sheet (nI n)) (or := fs_Ref_pattern m.o_this (nI n)) h rfl rfl ?_ (ho _ ?_) rfl (fun _ hq => hq) rfl ?_ (fun _ hq => hq) rfl rfl rfl rfl rfl rfl rfl rfl rfl rfl rfl rfl
  · rw [go]; unfold kRules
    refine Option.map_eq_some_iff.mpr ⟨(fs_Sheet_pattern s.o_sheet (nI n), s.o_fonts, s.g_fonts_ids, s.g_fonts_attributes, s.g_fonts_permanent, s.g_fonts_glyphs, s.g_fonts_dots, s.g_sheet_marks), ?_, rfl⟩
    rw [fr_71]; unfold ex_Sheet_setPattern; rfl
  · unfold mFoR
    refine Option.map_eq_some_iff.mpr ⟨(fs_Ref_pattern m.o_this (nI n), m.o_desk, m.o_sheet, m.g_sheet_dots, m.o_shelf, m.g_shelf_ids, m.g_shelf_permanent, m.g_shelf_attributes, m.g_shelf_glyph, m.g_shelf_store), ?_, rfl⟩
    rw [fq_71]
  · intro a b c hr
    obtain ⟨r1, r2, r3, r4, r5, r6, r7, r8, r9⟩ := hr
    exact ⟨a, b, n, ⟨r1, r2, r3, r4, rfl, rfl, r7, r8, by omega⟩⟩

theorem oc_cD {N d k r cp T mm : Nat} {v : Int} {p : Nat → Nat} {s : CS} {m : RS} (h : oH N d k r cp T 42 99 68 mm v p s m) : oR N d T 10851 s m := by
  have h' := h
  obtain ⟨hC, hSd, hcm, ⟨bf, bg, be, bm, bv1, bv2⟩, c1, c2, c3, hdt, y0, y1, y2, y3, y5⟩ := h'
  obtain ⟨n1, n2⟩ := ps_num (N := N) c2 ⟨bv1, bv2⟩
  have go : kDo N s (nI 10851) = kRules N s (nI 68) (nI (v.toNat / 10000)) (lI (v.toNat : Int)) := by
    rw [kd_10851]
    refine (bind_eq n1).trans ((bind_eq n2).trans ?_)
    rw [c1]
  obtain ⟨n, hnd⟩ : ∃ n, n = v.toNat / 10000 := ⟨_, rfl⟩
  have hn : n ≤ 32767 := by omega
  have ho : ∀ m3, mFoR N m (nI 68) (nI n) (nI (v.toNat / 1000)) = some m3 → mOther N m = some m3 := by
    intro m3 hh
    refine mo_1 y0 y1 y2 ⟨bv1, bv2⟩ ?_
    rw [y3, ← hnd]; exact hh
  rw [← hnd] at go
  obtain ⟨F, fn, fu, ⟨hK, s1, s2, s3, s4, s5, s6, s7, s8⟩, f2, f3⟩ := hC.2.2.1
  obtain ⟨e1, e2⟩ := sl_hand0 (N := N) (o := s.o_fonts) (om := m.o_shelf) hn
  refine oc_fo (o := fs_FontShelf_id s.o_fonts (nI n)) (om := fs_mShelf_loading (fs_mShelf_id (fs_mShelf_thrown m.o_shelf 0) (nI n)) 0) (ids := s.g_fonts_ids) (at_ := s.g_fonts_attributes) (pm := s.g_fonts_permanent) (gl := s.g_fonts_glyphs) (dt := s.g_fonts_dots) (ws := s.g_fonts_wishes) (pn := s.g_fonts_pins) (cm := s.g_fonts_coming) (ids' := m.g_shelf_ids) (at' := m.g_shelf_attributes) (pm' := m.g_shelf_permanent) (gl' := m.g_shelf_glyph) (st := m.g_shelf_store) (dr := m.g_shelf_draft) (ws' := m.g_shelf_wishes) (pn' := m.g_shelf_pins) (cm' := m.g_shelf_coming) (by_ := m.g_shelf_bytes) h rfl rfl ?_ (ho _ ?_) ⟨F, fn, fu, ⟨hK, s1, s2, s3, s4, s5, s6, rfl, s8⟩, f2, f3⟩
  · rw [go]; unfold kRules
    refine Option.map_eq_some_iff.mpr ⟨(s.o_sheet, fs_FontShelf_id s.o_fonts (nI n), s.g_fonts_ids, s.g_fonts_attributes, s.g_fonts_permanent, s.g_fonts_glyphs, s.g_fonts_dots, s.g_sheet_marks), ?_, rfl⟩
    rw [fr_68, e1]; rfl
  · unfold mFoR
    refine Option.map_eq_some_iff.mpr ⟨(m.o_this, m.o_desk, m.o_sheet, m.g_sheet_dots, fs_mShelf_loading (fs_mShelf_id (fs_mShelf_thrown m.o_shelf 0) (nI n)) 0, m.g_shelf_ids, m.g_shelf_permanent, m.g_shelf_attributes, m.g_shelf_glyph, m.g_shelf_store), ?_, rfl⟩
    rw [fq_68]
    exact (bind_eq e2).trans rfl

theorem oc_cE {N d k r cp T mm : Nat} {v : Int} {p : Nat → Nat} {s : CS} {m : RS} (h : oH N d k r cp T 42 99 69 mm v p s m) : oR N d T 10851 s m := by
  have h' := h
  obtain ⟨hC, hSd, hcm, ⟨bf, bg, be, bm, bv1, bv2⟩, c1, c2, c3, hdt, y0, y1, y2, y3, y5⟩ := h'
  obtain ⟨n1, n2⟩ := ps_num (N := N) c2 ⟨bv1, bv2⟩
  have go : kDo N s (nI 10851) = kRules N s (nI 69) (nI (v.toNat / 10000)) (lI (v.toNat : Int)) := by
    rw [kd_10851]
    refine (bind_eq n1).trans ((bind_eq n2).trans ?_)
    rw [c1]
  obtain ⟨n, hnd⟩ : ∃ n, n = v.toNat / 10000 := ⟨_, rfl⟩
  have hn : n ≤ 32767 := by omega
  have ho : ∀ m3, mFoR N m (nI 69) (nI n) (nI (v.toNat / 1000)) = some m3 → mOther N m = some m3 := by
    intro m3 hh
    refine mo_1 y0 y1 y2 ⟨bv1, bv2⟩ ?_
    rw [y3, ← hnd]; exact hh
  rw [← hnd] at go
  obtain ⟨F, fn, fu, ⟨hK, s1, s2, s3, s4, s5, s6, s7, s8⟩, f2, f3⟩ := hC.2.2.1
  obtain ⟨o', om', c', e1, e2, e3, e4⟩ := sl_hand1 (N := N) (o := s.o_fonts) (om := m.o_shelf) hn s8
  refine oc_fo (o := o') (om := om') (ids := s.g_fonts_ids) (at_ := s.g_fonts_attributes) (pm := s.g_fonts_permanent) (gl := s.g_fonts_glyphs) (dt := s.g_fonts_dots) (ws := s.g_fonts_wishes) (pn := s.g_fonts_pins) (cm := s.g_fonts_coming) (ids' := m.g_shelf_ids) (at' := m.g_shelf_attributes) (pm' := m.g_shelf_permanent) (gl' := m.g_shelf_glyph) (st := m.g_shelf_store) (dr := m.g_shelf_draft) (ws' := m.g_shelf_wishes) (pn' := m.g_shelf_pins) (cm' := m.g_shelf_coming) (by_ := m.g_shelf_bytes) h rfl rfl ?_ (ho _ ?_) ?_
  · rw [go]; unfold kRules
    refine Option.map_eq_some_iff.mpr ⟨(s.o_sheet, o', s.g_fonts_ids, s.g_fonts_attributes, s.g_fonts_permanent, s.g_fonts_glyphs, s.g_fonts_dots, s.g_sheet_marks), ?_, rfl⟩
    rw [fr_69, e1]; rfl
  · unfold mFoR
    refine Option.map_eq_some_iff.mpr ⟨(m.o_this, m.o_desk, m.o_sheet, m.g_sheet_dots, om', m.g_shelf_ids, m.g_shelf_permanent, m.g_shelf_attributes, m.g_shelf_glyph, m.g_shelf_store), ?_, rfl⟩
    rw [fq_69]
    exact (bind_eq e2).trans rfl
  · rcases e4 with ⟨z1, z2⟩ | ⟨z1, z2⟩
    · rw [z1, z2]; exact ⟨F, fn, fu, ⟨hK, s1, s2, s3, s4, s5, s6, s7, s8⟩, f2, f3⟩
    · rw [z1, z2]; exact ⟨F, fn, fu, ⟨hK, s1, s2, s3, s4, s5, s6, s7, rfl⟩, f2, f3⟩

theorem oc_cF {N d k r cp T mm : Nat} {v : Int} {p : Nat → Nat} {s : CS} {m : RS} (hN : 30000 < N) (h : oH N d k r cp T 42 99 70 mm v p s m) : oR N d T 10851 s m := by
  have h' := h
  obtain ⟨hC, hSd, hcm, ⟨bf, bg, be, bm, bv1, bv2⟩, c1, c2, c3, hdt, y0, y1, y2, y3, y5⟩ := h'
  obtain ⟨n1, n2⟩ := ps_num (N := N) c2 ⟨bv1, bv2⟩
  have go : kDo N s (nI 10851) = kRules N s (nI 70) (nI (v.toNat / 10000)) (lI (v.toNat : Int)) := by
    rw [kd_10851]
    refine (bind_eq n1).trans ((bind_eq n2).trans ?_)
    rw [c1]
  obtain ⟨n, hnd⟩ : ∃ n, n = v.toNat / 10000 := ⟨_, rfl⟩
  have hn : n ≤ 32767 := by omega
  have ho : ∀ m3, mFoR N m (nI 70) (nI n) (nI (v.toNat / 1000)) = some m3 → mOther N m = some m3 := by
    intro m3 hh
    refine mo_1 y0 y1 y2 ⟨bv1, bv2⟩ ?_
    rw [y3, ← hnd]; exact hh
  rw [← hnd] at go
  obtain ⟨F, fn, fu, hS, f2, f3⟩ := hC.2.2.1
  by_cases q1 : n = 1
  · subst q1
    obtain ⟨F', n', u', ic', pc', ac', gg', gdt', im', pm', am', gm', gs', cnt', e1, e2, e3⟩ := sl_drop1 hN hS
    obtain ⟨o', ho'⟩ : ∃ o', o' = fsO (fs_FontShelf_chosenKnown s.o_fonts 0) F' n' u' := ⟨_, rfl⟩
    obtain ⟨om', hom'⟩ : ∃ om', om' = msO (fs_mShelf_loading (fs_mShelf_thrown m.o_shelf 0) 0) F' n' u' := ⟨_, rfl⟩
    have hk0 : fd_FontShelf_chosenKnown o' = 0 := by rw [ho']; rfl
    rw [← ho', ← hom'] at e3
    rw [← ho'] at e1
    rw [← hom'] at e2
    refine oc_fo (o := o') (om := om') (ids := ic') (at_ := ac') (pm := pc') (gl := gg') (dt := gdt') (ws := s.g_fonts_wishes) (pn := s.g_fonts_pins) (cm := s.g_fonts_coming) (ids' := im') (at' := am') (pm' := pm') (gl' := gm') (st := gs') (dr := m.g_shelf_draft) (ws' := m.g_shelf_wishes) (pn' := m.g_shelf_pins) (cm' := m.g_shelf_coming) (by_ := m.g_shelf_bytes) h rfl rfl ?_ (ho _ ?_) ⟨F', n', u', e3, f2, Or.inl hk0⟩
    · rw [go]; unfold kRules
      refine Option.map_eq_some_iff.mpr ⟨(s.o_sheet, o', ic', ac', pc', gg', gdt', s.g_sheet_marks), ?_, rfl⟩
      rw [fr_70, if_pos (show nI 1 = 1 from rfl), e1]; rfl
    · unfold mFoR
      refine Option.map_eq_some_iff.mpr ⟨(m.o_this, m.o_desk, m.o_sheet, m.g_sheet_dots, om', im', pm', am', gm', gs'), ?_, rfl⟩
      rw [fq_70a _ _ _ _ _ _ _ _ _ _ _ _ _ (by omega)]
      exact (bind_eq e2).trans rfl
  · have nn : ¬ nI n = 1 := mt (nI_eq (b := 1) (by omega) (by omega)).mp q1
    obtain ⟨F', n', u', o', om', ic', pc', ac', gg', gdt', im', pm', am', gm', gs', e1, e2, e3, e4, e5, e6⟩ := sl_mng hN hS hn q1
    refine oc_fo (o := o') (om := om') (ids := ic') (at_ := ac') (pm := pc') (gl := gg') (dt := gdt') (ws := s.g_fonts_wishes) (pn := s.g_fonts_pins) (cm := s.g_fonts_coming) (ids' := im') (at' := am') (pm' := pm') (gl' := gm') (st := gs') (dr := m.g_shelf_draft) (ws' := m.g_shelf_wishes) (pn' := m.g_shelf_pins) (cm' := m.g_shelf_coming) (by_ := m.g_shelf_bytes) h rfl rfl ?_ (ho _ ?_) ⟨F', n', u', e2, f2, Or.inl e3⟩
    · rw [go]; unfold kRules
      refine Option.map_eq_some_iff.mpr ⟨(s.o_sheet, o', ic', ac', pc', gg', gdt', s.g_sheet_marks), ?_, rfl⟩
      rw [fr_70, if_neg nn, e1]; rfl
    · unfold mFoR
      refine Option.map_eq_some_iff.mpr ⟨(m.o_this, m.o_desk, m.o_sheet, m.g_sheet_dots, om', im', pm', am', gm', gs'), ?_, rfl⟩
      by_cases q3 : n ≤ 3
      · obtain ⟨cnt, w⟩ := e4 q3
        rw [fq_70a _ _ _ _ _ _ _ _ _ _ _ _ _ q3]
        exact (bind_eq w).trans rfl
      by_cases q6 : 6 ≤ n
      · obtain ⟨w1, w2, w3, w4, w5, w6⟩ := e6 q6
        rw [fq_70d _ _ _ _ _ _ _ _ _ _ _ _ _ q6 hn, w1, w2, w3, w4, w5, w6]
      · obtain ⟨cc, w, w2, w3, w4, w5⟩ := e5 (by omega)
        rw [w2, w3, w4, w5]
        have : n = 4 ∨ n = 5 := by omega
        rcases this with q | q
        · rw [q] at w ⊢
          rw [fq_70b]
          exact (bind_eq w).trans rfl
        · rw [q] at w ⊢
          rw [fq_70c]
          exact (bind_eq w).trans rfl

theorem oc_cP {N d k r cp T mm : Nat} {v : Int} {p : Nat → Nat} {s : CS} {m : RS} (hN : 2 ^ 22 < N) (h : oH N d k r cp T 42 99 80 mm v p s m) : oR N d T 10851 s m := by
  have h' := h
  obtain ⟨hC, hSd, hcm, ⟨bf, bg, be, bm, bv1, bv2⟩, c1, c2, c3, hdt, y0, y1, y2, y3, y5⟩ := h'
  obtain ⟨n1, n2⟩ := ps_num (N := N) c2 ⟨bv1, bv2⟩
  have go : kDo N s (nI 10851) = kRules N s (nI 80) (nI (v.toNat / 10000)) (lI (v.toNat : Int)) := by
    rw [kd_10851]
    refine (bind_eq n1).trans ((bind_eq n2).trans ?_)
    rw [c1]
  obtain ⟨n, hnd⟩ : ∃ n, n = v.toNat / 10000 := ⟨_, rfl⟩
  have hn : n ≤ 32767 := by omega
  have ho : ∀ m3, mFoR N m (nI 80) (nI n) (nI (v.toNat / 1000)) = some m3 → mOther N m = some m3 := by
    intro m3 hh
    refine mo_1 y0 y1 y2 ⟨bv1, bv2⟩ ?_
    rw [y3, ← hnd]; exact hh
  rw [← hnd] at go
  have hPg := hC.1
  obtain ⟨sd, q1, q2⟩ := hC.2.1.2.2.1
  obtain ⟨a, b, c, hru⟩ := hC.2.1.2.2.2.2.2
  have hW := pgW_le (k := k) (r := r) hPg.2.1
  have hH := pgH_le (k := k) (r := r) hPg.2.1
  have hp0 := hPg.2.2.2.2.2.1.1
  have hp1 := hPg.2.2.2.2.2.1.2.1
  have hdk := hPg.2.2.2.2.2.2.2.1
  have g0 : m.g_desk_state 0 = nI (p 0) := hdk.2.2.2.2.2 0 (by omega)
  have g1 : m.g_desk_state 1 = nI (p 1) := hdk.2.2.2.2.2 1 (by omega)
  have all : ∀ sd', shR k r d s.o_sheet m.o_sheet s.g_sheet_marks s.g_sheet_dots m.g_sheet_dots sd' m.n_sheet_dots → ∃ o' gmk' os' b' od', ex_Sheet_layRule N s.o_sheet (pgC d k r cp p) s.g_sheet_marks (nI n) = some (o', gmk') ∧ ex_Ref_rule N m.o_this m.o_desk m.o_sheet m.g_desk_state m.n_sheet_dots m.g_sheet_dots (nI n) = some (od', os', b') ∧ shR k r d o' os' gmk' s.g_sheet_dots b' sd' m.n_sheet_dots ∧ shF s.o_sheet o' ∧ ((od' = m.o_desk ∧ o' = s.o_sheet ∧ os' = m.o_sheet) ∨ (od' = dueO m.o_desk ∧ fd_Sheet_due o' = 1)) := fun sd' q => ly_rule2 (N := N) (X := p 0) (Y := p 1) (op := pgC d k r cp p) hN hPg.2.1 hPg.2.2.1 hPg.1 q hru rfl rfl rfl rfl rfl hdk.2.1 hPg.2.2.2.2.2.2.2.2.2 g0 g1 (by omega) (by omega) hn
  obtain ⟨o', gmk', os', b', od', e1, e2, e3, e4, e5⟩ := all sd q1
  have e3' : ∀ sd', shR k r d s.o_sheet m.o_sheet s.g_sheet_marks s.g_sheet_dots m.g_sheet_dots sd' m.n_sheet_dots → shR k r d o' os' gmk' s.g_sheet_dots b' sd' m.n_sheet_dots := by
    intro sd' q
    obtain ⟨o2, gmk2, os2, b2, od2, w1, w2, w3, w4, w5⟩ := all sd' q
    have z1 := Option.some.inj (w1.symm.trans e1)
    have z2 := Option.some.inj (w2.symm.trans e2)
    have x1 : o2 = o' := congrArg (fun t => t.1) z1
    have x2 : gmk2 = gmk' := congrArg (fun t => t.2) z1
    have x4 : os2 = os' := congrArg (fun t => t.2.1) z2
    have x5 : b2 = b' := congrArg (fun t => t.2.2) z2
    rw [x1, x2, x4, x5] at w3
    exact w3
  have hdk' : dkM k r cp p od' m.g_desk_state := by
    rcases e5 with ⟨z, _⟩ | ⟨z, _⟩
    · rw [z]; exact hdk
    · rw [z]; exact hdk
  obtain ⟨x, m3, hx, hm, r1, r2, r3, r4, r5, r6, r7, r8⟩ := cx_ra (gf := m.g_fresh) (oR := s.o_raster) (g := s.g_raster_seed) (or := m.o_this) (gm := m.g_seed) hC hSd hcm (show T ≤ T + 4 by omega) (rsR_mono (by omega) hC.2.2.2.1) (rfF_refl _) hdk' hPg.2.2.2.2.2.1 (hiS_refl p) e3' e4 e5
  rw [← hPg.2.2.2.2.1] at hx
  refine ⟨x, m3, k, r, cp, p, ?_, ho _ ?_, r1, r2, r3, r4, r5, r6, r7, r8⟩
  · rw [go]; unfold kRules
    refine Option.map_eq_some_iff.mpr ⟨(o', s.o_fonts, s.g_fonts_ids, s.g_fonts_attributes, s.g_fonts_permanent, s.g_fonts_glyphs, s.g_fonts_dots, gmk'), ?_, hx.symm⟩
    rw [fr_80, hPg.2.2.2.2.1, e1]; rfl
  · unfold mFoR
    refine Option.map_eq_some_iff.mpr ⟨(m.o_this, od', os', b', m.o_shelf, m.g_shelf_ids, m.g_shelf_permanent, m.g_shelf_attributes, m.g_shelf_glyph, m.g_shelf_store), ?_, hm.symm⟩
    rw [fq_80]
    exact (bind_eq e2).trans rfl

theorem oc_c0 {N d k r cp T e mm : Nat} {v : Int} {p : Nat → Nat} {s : CS} {m : RS} (he : e ≠ 65 ∧ e ≠ 66 ∧ e ≠ 68 ∧ e ≠ 69 ∧ e ≠ 70 ∧ e ≠ 71 ∧ e ≠ 72 ∧ e ≠ 80 ∧ e ≠ 86) (h : oH N d k r cp T 42 99 e mm v p s m) : oR N d T 10851 s m := by
  have h' := h
  obtain ⟨hC, hSd, hcm, ⟨bf, bg, be, bm, bv1, bv2⟩, c1, c2, c3, hdt, y0, y1, y2, y3, y5⟩ := h'
  obtain ⟨n1, n2⟩ := ps_num (N := N) c2 ⟨bv1, bv2⟩
  have go : kDo N s (nI 10851) = kRules N s (nI e) (nI (v.toNat / 10000)) (lI (v.toNat : Int)) := by
    rw [kd_10851]
    refine (bind_eq n1).trans ((bind_eq n2).trans ?_)
    rw [c1]
  obtain ⟨n, hnd⟩ : ∃ n, n = v.toNat / 10000 := ⟨_, rfl⟩
  have hn : n ≤ 32767 := by omega
  have ho : ∀ m3, mFoR N m (nI e) (nI n) (nI (v.toNat / 1000)) = some m3 → mOther N m = some m3 := by
    intro m3 hh
    refine mo_1 y0 y1 y2 ⟨bv1, bv2⟩ ?_
    rw [y3, ← hnd]; exact hh
  rw [← hnd] at go
  refine oc_id h ?_ (ho _ ?_)
  · rw [go]; unfold kRules
    refine Option.map_eq_some_iff.mpr ⟨(s.o_sheet, s.o_fonts, s.g_fonts_ids, s.g_fonts_attributes, s.g_fonts_permanent, s.g_fonts_glyphs, s.g_fonts_dots, s.g_sheet_marks), ?_, rfl⟩
    rw [fr_no _ _ _ _ _ _ _ _ _ _ _ _ be he]
  · unfold mFoR
    refine Option.map_eq_some_iff.mpr ⟨(m.o_this, m.o_desk, m.o_sheet, m.g_sheet_dots, m.o_shelf, m.g_shelf_ids, m.g_shelf_permanent, m.g_shelf_attributes, m.g_shelf_glyph, m.g_shelf_store), ?_, rfl⟩
    rw [fq_no _ _ _ _ _ _ _ _ _ _ _ _ _ _ be he]

theorem oc_c {N d k r cp T e mm : Nat} {v : Int} {p : Nat → Nat} {s : CS} {m : RS} (hN : 2 ^ 22 < N) (h : oH N d k r cp T 42 99 e mm v p s m) : oR N d T 10851 s m := by
  by_cases q65 : e = 65
  · subst q65; exact oc_cA h
  by_cases q66 : e = 66
  · subst q66; exact oc_cB h
  by_cases q68 : e = 68
  · subst q68; exact oc_cD h
  by_cases q69 : e = 69
  · subst q69; exact oc_cE h
  by_cases q70 : e = 70
  · subst q70; exact oc_cF (by omega) h
  by_cases q71 : e = 71
  · subst q71; exact oc_cG h
  by_cases q72 : e = 72
  · subst q72; exact oc_cH h
  by_cases q80 : e = 80
  · subst q80; exact oc_cP hN h
  by_cases q86 : e = 86
  · subst q86; exact oc_cV h
  exact oc_c0 ⟨q65, q66, q68, q69, q70, q71, q72, q80, q86⟩ h
theorem chM_move {N F n u n' u' : Nat} {o : ob_FontShelf} {ic pc ac gg gdt im pm am gm gst wc pnc wm pnm gg' gdt' im' pm' am' gm' gst' wm' pnm' ch : Nat → Int32} (hN : 1000 < N) (ho : fd_FontShelf_fonts o = nI F) (hK : slK F n u ic pc ac gg gdt im pm am gm gst) (hw : wsR wc pnc wm pnm) (hK' : slK F n' u' ic pc ac gg' gdt' im' pm' am' gm' gst') (hw' : wsR wc pnc wm' pnm') (h : chM N F pnm im wm am pm ch) : chM N F pnm' im' wm' am' pm' ch := by
  intro w hw2
  refine ⟨(h w hw2).1, fun om lm hom => ?_⟩
  obtain ⟨lc1, lm1, z1, a1, a2, _⟩ := sl_choose (w := w) (fun _ => 0) lm hN hw2 hK ho hom hw
  obtain ⟨lc2, lm2, z2, b1, b2, _⟩ := sl_choose (w := w) (fun _ => 0) lm hN hw2 hK' ho hom hw'
  have e1 : z1 = z2 := congrArg (fun t => t.2) (Option.some.inj (a1.symm.trans b1))
  obtain ⟨lm3, c⟩ := (h w hw2).2 om lm hom
  have e2 : z1 = ch w := congrArg (fun t => t.2) (Option.some.inj (a2.symm.trans c))
  exact ⟨lm2, by rw [b2, ← e1, e2]⟩

theorem oc_w {N d k r cp T f gr e mm K w a : Nat} {v z : Int} {p : Nat → Nat} {s : CS} {m : RS} (hN : 1000 < N) (hw : w < 2) (ha : a < 7) (hz : -2147483648 ≤ z ∧ z < 2147483648) (h : oH N d k r cp T f gr e mm v p s m) (hk : ∀ o' pn' ws', ex_FontShelf_wish N s.o_fonts s.g_fonts_pins s.g_fonts_wishes (nI w) (nI a) (lI z) = some (o', pn', ws') → kDo N s (nI K) = some (kFn s o' s.g_fonts_ids s.g_fonts_attributes s.g_fonts_permanent s.g_fonts_glyphs s.g_fonts_dots ws' pn' s.g_fonts_coming)) (hm : ∀ om' dr' ws' pn' c, ex_mShelf_attribute N m.o_shelf 7 m.g_shelf_draft 14 m.g_shelf_wishes 2 m.g_shelf_pins 1 (nI w) (nI a) (iI z) = some (om', dr', ws', pn', c) → mOther N m = some (mFn m om' m.g_shelf_ids m.g_shelf_attributes m.g_shelf_permanent m.g_shelf_glyph m.g_shelf_store dr' ws' pn' m.g_shelf_coming m.g_shelf_bytes)) : oR N d T K s m := by
  obtain ⟨F, fn, fu, ⟨hK, s1, s2, s3, s4, s5, s6, s7, s8⟩, f2, f3⟩ := h.1.2.2.1
  obtain ⟨o', wc', pnc', wm', pnm', c, e1, e2, e3, e4⟩ := sl_wish (N := N) (o := s.o_fonts) (om := m.o_shelf) (dr := m.g_shelf_draft) hw ha hz f2
  refine oc_fo (o := o') (om := fs_mShelf_thrown m.o_shelf 0) (ids := s.g_fonts_ids) (at_ := s.g_fonts_attributes) (pm := s.g_fonts_permanent) (gl := s.g_fonts_glyphs) (dt := s.g_fonts_dots) (cm := s.g_fonts_coming) (ids' := m.g_shelf_ids) (at' := m.g_shelf_attributes) (pm' := m.g_shelf_permanent) (gl' := m.g_shelf_glyph) (st := m.g_shelf_store) (cm' := m.g_shelf_coming) (by_ := m.g_shelf_bytes) (dr := m.g_shelf_draft) (ws := wc') (pn := pnc') (ws' := wm') (pn' := pnm') h rfl rfl (hk _ _ _ e1) (hm _ _ _ _ _ e2) ?_
  rcases e4 with ⟨z1, z2, z3⟩ | z1
  · subst z1; subst z2; subst z3
    refine ⟨F, fn, fu, ⟨hK, s1, s2, s3, s4, s5, s6, s7, s8⟩, e3, ?_⟩
    rcases f3 with q | ⟨q, q2⟩
    · exact Or.inl q
    · exact Or.inr ⟨q, chM_move hN s1 hK f2 hK e3 q2⟩
  · subst z1
    exact ⟨F, fn, fu, ⟨hK, s1, s2, s3, s4, s5, s6, s7, s8⟩, e3, Or.inl rfl⟩

theorem oc_pin {N d k r cp T f gr e mm K w i : Nat} {v : Int} {p : Nat → Nat} {s : CS} {m : RS} (hN : 1000 < N) (hw : w < 2) (hi : i ≤ 32767) (h : oH N d k r cp T f gr e mm v p s m) (hk : ∀ o' pn' ws', ex_FontShelf_pin N s.o_fonts s.g_fonts_ids s.g_fonts_pins s.g_fonts_attributes s.g_fonts_wishes (nI w) (nI i) = some (o', pn', ws') → kDo N s (nI K) = some (kFn s o' s.g_fonts_ids s.g_fonts_attributes s.g_fonts_permanent s.g_fonts_glyphs s.g_fonts_dots ws' pn' s.g_fonts_coming)) (hm : ∀ om' pn' ws' c (dr' : Nat → Int32), dr' = m.g_shelf_draft → ex_mShelf_pin N m.o_shelf m.g_shelf_ids 2 m.g_shelf_pins 14 m.g_shelf_wishes m.g_shelf_attributes (nI w) (nI i) = some (om', pn', ws', c) → mOther N m = some (mFn m om' m.g_shelf_ids m.g_shelf_attributes m.g_shelf_permanent m.g_shelf_glyph m.g_shelf_store dr' ws' pn' m.g_shelf_coming m.g_shelf_bytes)) : oR N d T K s m := by
  obtain ⟨F, fn, fu, ⟨hK, s1, s2, s3, s4, s5, s6, s7, s8⟩, f2, f3⟩ := h.1.2.2.1
  obtain ⟨o', wc', pnc', wm', pnm', c, e1, e2, e3, e4⟩ := sl_pin (N := N) (o := s.o_fonts) (om := m.o_shelf) hN hw hi hK s1 s4 f2
  refine oc_fo (o := o') (om := fs_mShelf_thrown m.o_shelf 0) (ids := s.g_fonts_ids) (at_ := s.g_fonts_attributes) (pm := s.g_fonts_permanent) (gl := s.g_fonts_glyphs) (dt := s.g_fonts_dots) (cm := s.g_fonts_coming) (ids' := m.g_shelf_ids) (at' := m.g_shelf_attributes) (pm' := m.g_shelf_permanent) (gl' := m.g_shelf_glyph) (st := m.g_shelf_store) (cm' := m.g_shelf_coming) (by_ := m.g_shelf_bytes) (dr := m.g_shelf_draft) (ws := wc') (pn := pnc') (ws' := wm') (pn' := pnm') h rfl rfl (hk _ _ _ e1) (hm _ _ _ _ _ rfl e2) ?_
  rcases e4 with ⟨z1, z2, z3⟩ | z1
  · subst z1; subst z2; subst z3
    refine ⟨F, fn, fu, ⟨hK, s1, s2, s3, s4, s5, s6, s7, s8⟩, e3, ?_⟩
    rcases f3 with q | ⟨q, q2⟩
    · exact Or.inl q
    · exact Or.inr ⟨q, chM_move hN s1 hK f2 hK e3 q2⟩
  · subst z1
    exact ⟨F, fn, fu, ⟨hK, s1, s2, s3, s4, s5, s6, s7, s8⟩, e3, Or.inl rfl⟩

theorem rf_pin {N : Nat} (or : ob_Ref) (sh : ob_mShelf) (dr ws pn : Nat → Int32) (od : ob_mDesk) (ids gl st cm by_ ds at_ pm : Nat → Int32) (v0 v3 v4 v5 : Int32) : ex_Ref_font N or sh 7 dr 14 ws 2 pn od ids gl st cm by_ ds at_ pm v0 (nI 0) (nI 88) v3 v4 v5 = (ex_mShelf_pin N sh ids 2 pn 14 ws at_ v0 v3).bind (fun u => some (u.1, dr, u.2.2.1, u.2.1, ids, gl, st, cm, by_, at_, pm)) := by
  unfold ex_Ref_font
  by_cases q : (0 : Int32) ≤ v4
  · rw [if_pos q, if_pos (show nI 0 = 0 from rfl), if_pos (show nI 88 = 88 from rfl)]
  · rw [if_neg q, if_pos (show nI 0 = 0 from rfl), if_pos (show nI 88 = 88 from rfl)]

theorem rf_set0 {N e : Nat} (or : ob_Ref) (sh : ob_mShelf) (dr ws pn : Nat → Int32) (od : ob_mDesk) (ids gl st cm by_ ds at_ pm : Nat → Int32) (v0 v3 v4 v5 : Int32) (he : e < 256) (h88 : e ≠ 88) (hq : e < 65 ∨ 87 ≤ e) : ex_Ref_font N or sh 7 dr 14 ws 2 pn od ids gl st cm by_ ds at_ pm v0 (nI 0) (nI e) v3 v4 v5 = some (sh, dr, ws, pn, ids, gl, st, cm, by_, at_, pm) := by
  unfold ex_Ref_font
  have n88 : ¬ nI e = 88 := mt (nI_eq (b := 88) (by omega) (by omega)).mp h88
  by_cases q64 : e ≤ 64
  · have := nI_le (b := 64) q64 (by omega)
    by_cases q : (0 : Int32) ≤ v4
    · rw [if_pos q, if_pos (show nI 0 = 0 from rfl), if_neg n88, if_pos (show nI e ≤ 64 from this)]
    · rw [if_neg q, if_pos (show nI 0 = 0 from rfl), if_neg n88, if_pos (show nI e ≤ 64 from this)]
  · have a := nI_ge (a := 64) (b := e) (by omega) (by omega)
    have b := nI_le (a := 87) (b := e) (by omega) (by omega)
    by_cases q : (0 : Int32) ≤ v4
    · rw [if_pos q, if_pos (show nI 0 = 0 from rfl), if_neg n88, if_neg (show ¬ nI e ≤ 64 from a), if_pos (show (87 : Int32) ≤ nI e from b)]
    · rw [if_neg q, if_pos (show nI 0 = 0 from rfl), if_neg n88, if_neg (show ¬ nI e ≤ 64 from a), if_pos (show (87 : Int32) ≤ nI e from b)]

theorem rf_set {N e : Nat} (or : ob_Ref) (sh : ob_mShelf) (dr ws pn : Nat → Int32) (od : ob_mDesk) (ids gl st cm by_ ds at_ pm : Nat → Int32) (v0 v3 v4 v5 : Int32) (h1 : 65 ≤ e) (h2 : e ≤ 86) : ex_Ref_font N or sh 7 dr 14 ws 2 pn od ids gl st cm by_ ds at_ pm v0 (nI 0) (nI e) v3 v4 v5 = (ex_mShelf_attribute N sh 7 dr 14 ws 2 pn 1 v0 0 (((32 * v3) + nI e) - 64)).bind (fun u => some (u.1, u.2.1, u.2.2.1, u.2.2.2.1, ids, gl, st, cm, by_, at_, pm)) := by
  unfold ex_Ref_font
  have n88 : ¬ nI e = 88 := mt (nI_eq (b := 88) (by omega) (by omega)).mp (by omega)
  have a := nI_ge (a := 64) (b := e) (by omega) (by omega)
  have b := nI_ge (a := e) (b := 87) (by omega) (by omega)
  by_cases q : (0 : Int32) ≤ v4
  · rw [if_pos q, if_pos (show nI 0 = 0 from rfl), if_neg n88, if_neg (show ¬ nI e ≤ 64 from a), if_neg (show ¬ (87 : Int32) ≤ nI e from b)]
  · rw [if_neg q, if_pos (show nI 0 = 0 from rfl), if_neg n88, if_neg (show ¬ nI e ≤ 64 from a), if_neg (show ¬ (87 : Int32) ≤ nI e from b)]

theorem rf_W1 {N : Nat} (or : ob_Ref) (sh : ob_mShelf) (dr ws pn : Nat → Int32) (od : ob_mDesk) (ids gl st cm by_ ds at_ pm : Nat → Int32) (v3 v4 v5 : Int32) : ex_Ref_font N or sh 7 dr 14 ws 2 pn od ids gl st cm by_ ds at_ pm (nI 1) (nI 115) (nI 87) v3 v4 v5 = (ex_Ref_header N or od ds sh 7 dr ids at_ pm gl st v5).bind (fun u => some (u.1, u.2.1, ws, pn, u.2.2.1, u.2.2.2.2.2.1, u.2.2.2.2.2.2, cm, by_, u.2.2.2.1, u.2.2.2.2.1)) := by
  unfold ex_Ref_font
  by_cases q : (0 : Int32) ≤ v4
  · rw [if_pos q, if_neg (show ¬ nI 115 = 0 by decide), if_pos (show nI 115 = 115 from rfl), if_pos (show nI 87 = 87 from rfl), if_pos (show nI 1 = 1 from rfl)]
  · rw [if_neg q, if_neg (show ¬ nI 115 = 0 by decide), if_pos (show nI 115 = 115 from rfl), if_pos (show nI 87 = 87 from rfl), if_pos (show nI 1 = 1 from rfl)]

theorem rf_W0 {N : Nat} (or : ob_Ref) (sh : ob_mShelf) (dr ws pn : Nat → Int32) (od : ob_mDesk) (ids gl st cm by_ ds at_ pm : Nat → Int32) (v3 v4 v5 : Int32) : ex_Ref_font N or sh 7 dr 14 ws 2 pn od ids gl st cm by_ ds at_ pm (nI 0) (nI 115) (nI 87) v3 v4 v5 = (ex_Ref_glyph N or sh od ds ids cm by_ gl st v5).bind (fun u => some (u.1, dr, ws, pn, ids, u.2.2.2.1, u.2.2.2.2, u.2.1, u.2.2.1, at_, pm)) := by
  unfold ex_Ref_font
  by_cases q : (0 : Int32) ≤ v4
  · rw [if_pos q, if_neg (show ¬ nI 115 = 0 by decide), if_pos (show nI 115 = 115 from rfl), if_pos (show nI 87 = 87 from rfl), if_neg (show ¬ nI 0 = 1 by decide)]
  · rw [if_neg q, if_neg (show ¬ nI 115 = 0 by decide), if_pos (show nI 115 = 115 from rfl), if_pos (show nI 87 = 87 from rfl), if_neg (show ¬ nI 0 = 1 by decide)]

theorem rf_80 {N : Nat} (or : ob_Ref) (sh : ob_mShelf) (dr ws pn : Nat → Int32) (od : ob_mDesk) (ids gl st cm by_ ds at_ pm : Nat → Int32) (v0 v3 v4 v5 : Int32) : ex_Ref_font N or sh 7 dr 14 ws 2 pn od ids gl st cm by_ ds at_ pm v0 (nI 115) (nI 80) v3 v4 v5 = (ex_mShelf_attribute N sh 7 dr 14 ws 2 pn 1 v0 1 v3).bind (fun u => some (u.1, u.2.1, u.2.2.1, u.2.2.2.1, ids, gl, st, cm, by_, at_, pm)) := by
  unfold ex_Ref_font
  by_cases q : (0 : Int32) ≤ v4
  · rw [if_pos q, if_neg (show ¬ nI 115 = 0 by decide), if_pos (show nI 115 = 115 from rfl), if_neg (show ¬ nI 80 = 87 by decide), if_pos (show nI 80 = 80 from rfl), if_pos (show nI 80 = 80 from rfl)]
  · rw [if_neg q, if_neg (show ¬ nI 115 = 0 by decide), if_pos (show nI 115 = 115 from rfl), if_neg (show ¬ nI 80 = 87 by decide), if_pos (show nI 80 = 80 from rfl), if_pos (show nI 80 = 80 from rfl)]

theorem rf_83 {N : Nat} (or : ob_Ref) (sh : ob_mShelf) (dr ws pn : Nat → Int32) (od : ob_mDesk) (ids gl st cm by_ ds at_ pm : Nat → Int32) (v0 v3 v4 v5 : Int32) : ex_Ref_font N or sh 7 dr 14 ws 2 pn od ids gl st cm by_ ds at_ pm v0 (nI 115) (nI 83) v3 v4 v5 = (ex_mShelf_attribute N sh 7 dr 14 ws 2 pn 1 v0 4 v3).bind (fun u => some (u.1, u.2.1, u.2.2.1, u.2.2.2.1, ids, gl, st, cm, by_, at_, pm)) := by
  unfold ex_Ref_font
  by_cases q : (0 : Int32) ≤ v4
  · rw [if_pos q, if_neg (show ¬ nI 115 = 0 by decide), if_pos (show nI 115 = 115 from rfl), if_neg (show ¬ nI 83 = 87 by decide), if_neg (show ¬ nI 83 = 80 by decide), if_pos (show nI 83 = 83 from rfl), if_neg (show ¬ nI 83 = 80 by decide), if_pos (show nI 83 = 83 from rfl)]
  · rw [if_neg q, if_neg (show ¬ nI 115 = 0 by decide), if_pos (show nI 115 = 115 from rfl), if_neg (show ¬ nI 83 = 87 by decide), if_neg (show ¬ nI 83 = 80 by decide), if_pos (show nI 83 = 83 from rfl), if_neg (show ¬ nI 83 = 80 by decide), if_pos (show nI 83 = 83 from rfl)]

theorem rf_84 {N : Nat} (or : ob_Ref) (sh : ob_mShelf) (dr ws pn : Nat → Int32) (od : ob_mDesk) (ids gl st cm by_ ds at_ pm : Nat → Int32) (v0 v3 v4 v5 : Int32) : ex_Ref_font N or sh 7 dr 14 ws 2 pn od ids gl st cm by_ ds at_ pm v0 (nI 115) (nI 84) v3 v4 v5 = (ex_mShelf_attribute N sh 7 dr 14 ws 2 pn 1 v0 6 v3).bind (fun u => some (u.1, u.2.1, u.2.2.1, u.2.2.2.1, ids, gl, st, cm, by_, at_, pm)) := by
  unfold ex_Ref_font
  by_cases q : (0 : Int32) ≤ v4
  · rw [if_pos q, if_neg (show ¬ nI 115 = 0 by decide), if_pos (show nI 115 = 115 from rfl), if_neg (show ¬ nI 84 = 87 by decide), if_neg (show ¬ nI 84 = 80 by decide), if_neg (show ¬ nI 84 = 83 by decide), if_pos (show nI 84 = 84 from rfl), if_neg (show ¬ nI 84 = 80 by decide), if_neg (show ¬ nI 84 = 83 by decide)]
  · rw [if_neg q, if_neg (show ¬ nI 115 = 0 by decide), if_pos (show nI 115 = 115 from rfl), if_neg (show ¬ nI 84 = 87 by decide), if_neg (show ¬ nI 84 = 80 by decide), if_neg (show ¬ nI 84 = 83 by decide), if_pos (show nI 84 = 84 from rfl), if_neg (show ¬ nI 84 = 80 by decide), if_neg (show ¬ nI 84 = 83 by decide)]

theorem rf_66 {N : Nat} (or : ob_Ref) (sh : ob_mShelf) (dr ws pn : Nat → Int32) (od : ob_mDesk) (ids gl st cm by_ ds at_ pm : Nat → Int32) (v0 v3 v4 v5 : Int32) : ex_Ref_font N or sh 7 dr 14 ws 2 pn od ids gl st cm by_ ds at_ pm v0 (nI 115) (nI 66) v3 v4 v5 = (ex_mShelf_attribute N sh 7 dr 14 ws 2 pn 1 v0 5 (v4 / 10000)).bind (fun u => some (u.1, u.2.1, u.2.2.1, u.2.2.2.1, ids, gl, st, cm, by_, at_, pm)) := by
  unfold ex_Ref_font
  by_cases q : (0 : Int32) ≤ v4
  · rw [if_pos q, if_neg (show ¬ nI 115 = 0 by decide), if_pos (show nI 115 = 115 from rfl), if_neg (show ¬ nI 66 = 87 by decide), if_neg (show ¬ nI 66 = 80 by decide), if_neg (show ¬ nI 66 = 83 by decide), if_neg (show ¬ nI 66 = 84 by decide), if_neg (show ¬ nI 66 = 72 by decide), if_neg (show ¬ nI 66 = 86 by decide), if_pos (show nI 66 = 66 from rfl)]
  · rw [if_neg q, if_neg (show ¬ nI 115 = 0 by decide), if_pos (show nI 115 = 115 from rfl), if_neg (show ¬ nI 66 = 87 by decide), if_neg (show ¬ nI 66 = 80 by decide), if_neg (show ¬ nI 66 = 83 by decide), if_neg (show ¬ nI 66 = 84 by decide), if_neg (show ¬ nI 66 = 72 by decide), if_neg (show ¬ nI 66 = 86 by decide), if_pos (show nI 66 = 66 from rfl)]

theorem rf_72 {N : Nat} {v : Int} (or : ob_Ref) (sh : ob_mShelf) (dr ws pn : Nat → Int32) (od : ob_mDesk) (ids gl st cm by_ ds at_ pm : Nat → Int32) (v0 v3 v5 : Int32) (hv : -327679999 ≤ v ∧ v ≤ 327679999) : ex_Ref_font N or sh 7 dr 14 ws 2 pn od ids gl st cm by_ ds at_ pm v0 (nI 115) (nI 72) v3 (iI v) v5 = (ex_mShelf_attribute N sh 7 dr 14 ws 2 pn 1 v0 2 (nI (v.toNat / 100))).bind (fun u => some (u.1, u.2.1, u.2.2.1, u.2.2.2.1, ids, gl, st, cm, by_, at_, pm)) := by
  unfold ex_Ref_font
  by_cases q : 0 ≤ v
  · obtain ⟨c, _, _⟩ := v_div (x := iI v) rfl hv q
    have e : iI v / 100 = nI (v.toNat / 100) := by rw [iI_nat q]; exact nI_div (b := 100) (by omega) (by omega)
    rw [if_pos c, if_neg (show ¬ nI 115 = 0 by decide), if_pos (show nI 115 = 115 from rfl), if_neg (show ¬ nI 72 = 87 by decide), if_neg (show ¬ nI 72 = 80 by decide), if_neg (show ¬ nI 72 = 83 by decide), if_neg (show ¬ nI 72 = 84 by decide), if_pos (show nI 72 = 72 from rfl), if_pos (show nI 72 = 72 from rfl), e]
  · obtain ⟨c, _, _⟩ := v_neg (x := iI v) rfl hv q
    rw [if_neg c, if_neg (show ¬ nI 115 = 0 by decide), if_pos (show nI 115 = 115 from rfl), if_neg (show ¬ nI 72 = 87 by decide), if_neg (show ¬ nI 72 = 80 by decide), if_neg (show ¬ nI 72 = 83 by decide), if_neg (show ¬ nI 72 = 84 by decide), if_pos (show nI 72 = 72 from rfl), if_pos (show nI 72 = 72 from rfl), show v.toNat = 0 by omega]; rfl

theorem rf_86 {N : Nat} {v : Int} (or : ob_Ref) (sh : ob_mShelf) (dr ws pn : Nat → Int32) (od : ob_mDesk) (ids gl st cm by_ ds at_ pm : Nat → Int32) (v0 v3 v5 : Int32) (hv : -327679999 ≤ v ∧ v ≤ 327679999) : ex_Ref_font N or sh 7 dr 14 ws 2 pn od ids gl st cm by_ ds at_ pm v0 (nI 115) (nI 86) v3 (iI v) v5 = (ex_mShelf_attribute N sh 7 dr 14 ws 2 pn 1 v0 3 (nI (v.toNat / 100))).bind (fun u => some (u.1, u.2.1, u.2.2.1, u.2.2.2.1, ids, gl, st, cm, by_, at_, pm)) := by
  unfold ex_Ref_font
  by_cases q : 0 ≤ v
  · obtain ⟨c, _, _⟩ := v_div (x := iI v) rfl hv q
    have e : iI v / 100 = nI (v.toNat / 100) := by rw [iI_nat q]; exact nI_div (b := 100) (by omega) (by omega)
    rw [if_pos c, if_neg (show ¬ nI 115 = 0 by decide), if_pos (show nI 115 = 115 from rfl), if_neg (show ¬ nI 86 = 87 by decide), if_neg (show ¬ nI 86 = 80 by decide), if_neg (show ¬ nI 86 = 83 by decide), if_neg (show ¬ nI 86 = 84 by decide), if_neg (show ¬ nI 86 = 72 by decide), if_pos (show nI 86 = 86 from rfl), if_neg (show ¬ nI 86 = 72 by decide), e]
  · obtain ⟨c, _, _⟩ := v_neg (x := iI v) rfl hv q
    rw [if_neg c, if_neg (show ¬ nI 115 = 0 by decide), if_pos (show nI 115 = 115 from rfl), if_neg (show ¬ nI 86 = 87 by decide), if_neg (show ¬ nI 86 = 80 by decide), if_neg (show ¬ nI 86 = 83 by decide), if_neg (show ¬ nI 86 = 84 by decide), if_neg (show ¬ nI 86 = 72 by decide), if_pos (show nI 86 = 86 from rfl), if_neg (show ¬ nI 86 = 72 by decide), show v.toNat = 0 by omega]; rfl

theorem rf_115n {N e : Nat} (or : ob_Ref) (sh : ob_mShelf) (dr ws pn : Nat → Int32) (od : ob_mDesk) (ids gl st cm by_ ds at_ pm : Nat → Int32) (v0 v3 v4 v5 : Int32) (he : e < 256) (hn : e ≠ 66 ∧ e ≠ 72 ∧ e ≠ 80 ∧ e ≠ 83 ∧ e ≠ 84 ∧ e ≠ 86 ∧ e ≠ 87) : ex_Ref_font N or sh 7 dr 14 ws 2 pn od ids gl st cm by_ ds at_ pm v0 (nI 115) (nI e) v3 v4 v5 = some (sh, dr, ws, pn, ids, gl, st, cm, by_, at_, pm) := by
  unfold ex_Ref_font
  have ne : ∀ j : Nat, j < 256 → e ≠ j → ¬ nI e = nI j := fun j hj hne => mt (nI_eq (by omega) (by omega)).mp hne
  by_cases q : (0 : Int32) ≤ v4
  · rw [if_pos q, if_neg (show ¬ nI 115 = 0 by decide), if_pos (show nI 115 = 115 from rfl), if_neg (show ¬ nI e = 87 from ne 87 (by omega) (by omega)), if_neg (show ¬ nI e = 80 from ne 80 (by omega) (by omega)), if_neg (show ¬ nI e = 83 from ne 83 (by omega) (by omega)), if_neg (show ¬ nI e = 84 from ne 84 (by omega) (by omega)), if_neg (show ¬ nI e = 72 from ne 72 (by omega) (by omega)), if_neg (show ¬ nI e = 86 from ne 86 (by omega) (by omega)), if_neg (show ¬ nI e = 66 from ne 66 (by omega) (by omega))]
  · rw [if_neg q, if_neg (show ¬ nI 115 = 0 by decide), if_pos (show nI 115 = 115 from rfl), if_neg (show ¬ nI e = 87 from ne 87 (by omega) (by omega)), if_neg (show ¬ nI e = 80 from ne 80 (by omega) (by omega)), if_neg (show ¬ nI e = 83 from ne 83 (by omega) (by omega)), if_neg (show ¬ nI e = 84 from ne 84 (by omega) (by omega)), if_neg (show ¬ nI e = 72 from ne 72 (by omega) (by omega)), if_neg (show ¬ nI e = 86 from ne 86 (by omega) (by omega)), if_neg (show ¬ nI e = 66 from ne 66 (by omega) (by omega))]

theorem rf_no {N g : Nat} (or : ob_Ref) (sh : ob_mShelf) (dr ws pn : Nat → Int32) (od : ob_mDesk) (ids gl st cm by_ ds at_ pm : Nat → Int32) (v0 v2 v3 v4 v5 : Int32) (hg : g < 256) (h0 : g ≠ 0) (h1 : g ≠ 115) : ex_Ref_font N or sh 7 dr 14 ws 2 pn od ids gl st cm by_ ds at_ pm v0 (nI g) v2 v3 v4 v5 = some (sh, dr, ws, pn, ids, gl, st, cm, by_, at_, pm) := by
  unfold ex_Ref_font
  have n0 : ¬ nI g = 0 := nI_ne0 (by omega) (by omega)
  have n1 : ¬ nI g = 115 := mt (nI_eq (b := 115) (by omega) (by omega)).mp h1
  by_cases q : (0 : Int32) ≤ v4
  · rw [if_pos q, if_neg n0, if_neg n1]
  · rw [if_neg q, if_neg n0, if_neg n1]

theorem wi_72 {N : Nat} (oi : ob_Interpreter) (o : ob_FontShelf) (oP : ob_Parser) (ws pn gd ids at_ pm gl dt cm : Nat → Int32) (v0 v2 : Int32) (v3 : Int64) : ex_Interpreter_doWish N oi o oP ws pn gd ids at_ pm gl dt cm v0 (nI 72) v2 v3 = (ex_FontShelf_wish N o pn ws v0 2 (v3 / 100)).bind (fun u => some (u.1, u.2.2, u.2.1, ids, at_, pm, gl, dt, cm)) := by
  unfold ex_Interpreter_doWish
  rw [if_neg (show ¬ nI 72 = 66 by decide), if_neg (show ¬ nI 72 = 67 by decide), if_neg (show ¬ nI 72 = 68 by decide), if_neg (show ¬ nI 72 = 69 by decide), if_neg (show ¬ nI 72 = 70 by decide), if_neg (show ¬ nI 72 = 71 by decide), if_pos (show nI 72 = 72 from rfl)]

theorem wi_80 {N : Nat} (oi : ob_Interpreter) (o : ob_FontShelf) (oP : ob_Parser) (ws pn gd ids at_ pm gl dt cm : Nat → Int32) (v0 v2 : Int32) (v3 : Int64) : ex_Interpreter_doWish N oi o oP ws pn gd ids at_ pm gl dt cm v0 (nI 80) v2 v3 = (ex_FontShelf_wish N o pn ws v0 1 v2.toInt64).bind (fun u => some (u.1, u.2.2, u.2.1, ids, at_, pm, gl, dt, cm)) := by
  unfold ex_Interpreter_doWish
  rw [if_neg (show ¬ nI 80 = 66 by decide), if_neg (show ¬ nI 80 = 67 by decide), if_neg (show ¬ nI 80 = 68 by decide), if_neg (show ¬ nI 80 = 69 by decide), if_neg (show ¬ nI 80 = 70 by decide), if_neg (show ¬ nI 80 = 71 by decide), if_neg (show ¬ nI 80 = 72 by decide), if_neg (show ¬ nI 80 = 73 by decide), if_neg (show ¬ nI 80 = 74 by decide), if_neg (show ¬ nI 80 = 75 by decide), if_neg (show ¬ nI 80 = 76 by decide), if_neg (show ¬ nI 80 = 77 by decide), if_neg (show ¬ nI 80 = 78 by decide), if_neg (show ¬ nI 80 = 79 by decide), if_pos (show nI 80 = 80 from rfl)]

theorem wi_83 {N : Nat} (oi : ob_Interpreter) (o : ob_FontShelf) (oP : ob_Parser) (ws pn gd ids at_ pm gl dt cm : Nat → Int32) (v0 v2 : Int32) (v3 : Int64) : ex_Interpreter_doWish N oi o oP ws pn gd ids at_ pm gl dt cm v0 (nI 83) v2 v3 = (ex_FontShelf_wish N o pn ws v0 4 v2.toInt64).bind (fun u => some (u.1, u.2.2, u.2.1, ids, at_, pm, gl, dt, cm)) := by
  unfold ex_Interpreter_doWish
  rw [if_neg (show ¬ nI 83 = 66 by decide), if_neg (show ¬ nI 83 = 67 by decide), if_neg (show ¬ nI 83 = 68 by decide), if_neg (show ¬ nI 83 = 69 by decide), if_neg (show ¬ nI 83 = 70 by decide), if_neg (show ¬ nI 83 = 71 by decide), if_neg (show ¬ nI 83 = 72 by decide), if_neg (show ¬ nI 83 = 73 by decide), if_neg (show ¬ nI 83 = 74 by decide), if_neg (show ¬ nI 83 = 75 by decide), if_neg (show ¬ nI 83 = 76 by decide), if_neg (show ¬ nI 83 = 77 by decide), if_neg (show ¬ nI 83 = 78 by decide), if_neg (show ¬ nI 83 = 79 by decide), if_neg (show ¬ nI 83 = 80 by decide), if_neg (show ¬ nI 83 = 81 by decide), if_neg (show ¬ nI 83 = 82 by decide), if_pos (show nI 83 = 83 from rfl)]

theorem wi_84 {N : Nat} (oi : ob_Interpreter) (o : ob_FontShelf) (oP : ob_Parser) (ws pn gd ids at_ pm gl dt cm : Nat → Int32) (v0 v2 : Int32) (v3 : Int64) : ex_Interpreter_doWish N oi o oP ws pn gd ids at_ pm gl dt cm v0 (nI 84) v2 v3 = (ex_FontShelf_wish N o pn ws v0 6 v2.toInt64).bind (fun u => some (u.1, u.2.2, u.2.1, ids, at_, pm, gl, dt, cm)) := by
  unfold ex_Interpreter_doWish
  rw [if_neg (show ¬ nI 84 = 66 by decide), if_neg (show ¬ nI 84 = 67 by decide), if_neg (show ¬ nI 84 = 68 by decide), if_neg (show ¬ nI 84 = 69 by decide), if_neg (show ¬ nI 84 = 70 by decide), if_neg (show ¬ nI 84 = 71 by decide), if_neg (show ¬ nI 84 = 72 by decide), if_neg (show ¬ nI 84 = 73 by decide), if_neg (show ¬ nI 84 = 74 by decide), if_neg (show ¬ nI 84 = 75 by decide), if_neg (show ¬ nI 84 = 76 by decide), if_neg (show ¬ nI 84 = 77 by decide), if_neg (show ¬ nI 84 = 78 by decide), if_neg (show ¬ nI 84 = 79 by decide), if_neg (show ¬ nI 84 = 80 by decide), if_neg (show ¬ nI 84 = 81 by decide), if_neg (show ¬ nI 84 = 82 by decide), if_neg (show ¬ nI 84 = 83 by decide), if_pos (show nI 84 = 84 from rfl)]

theorem wi_86 {N : Nat} (oi : ob_Interpreter) (o : ob_FontShelf) (oP : ob_Parser) (ws pn gd ids at_ pm gl dt cm : Nat → Int32) (v0 v2 : Int32) (v3 : Int64) : ex_Interpreter_doWish N oi o oP ws pn gd ids at_ pm gl dt cm v0 (nI 86) v2 v3 = (ex_FontShelf_wish N o pn ws v0 3 (v3 / 100)).bind (fun u => some (u.1, u.2.2, u.2.1, ids, at_, pm, gl, dt, cm)) := by
  unfold ex_Interpreter_doWish
  rw [if_neg (show ¬ nI 86 = 66 by decide), if_neg (show ¬ nI 86 = 67 by decide), if_neg (show ¬ nI 86 = 68 by decide), if_neg (show ¬ nI 86 = 69 by decide), if_neg (show ¬ nI 86 = 70 by decide), if_neg (show ¬ nI 86 = 71 by decide), if_neg (show ¬ nI 86 = 72 by decide), if_neg (show ¬ nI 86 = 73 by decide), if_neg (show ¬ nI 86 = 74 by decide), if_neg (show ¬ nI 86 = 75 by decide), if_neg (show ¬ nI 86 = 76 by decide), if_neg (show ¬ nI 86 = 77 by decide), if_neg (show ¬ nI 86 = 78 by decide), if_neg (show ¬ nI 86 = 79 by decide), if_neg (show ¬ nI 86 = 80 by decide), if_neg (show ¬ nI 86 = 81 by decide), if_neg (show ¬ nI 86 = 82 by decide), if_neg (show ¬ nI 86 = 83 by decide), if_neg (show ¬ nI 86 = 84 by decide), if_neg (show ¬ nI 86 = 85 by decide), if_pos (show nI 86 = 86 from rfl)]

theorem wi_66 {N : Nat} (oi : ob_Interpreter) (o : ob_FontShelf) (oP : ob_Parser) (ws pn gd ids at_ pm gl dt cm : Nat → Int32) (v0 v2 : Int32) (v3 : Int64) : ex_Interpreter_doWish N oi o oP ws pn gd ids at_ pm gl dt cm v0 (nI 66) v2 v3 = (ex_FontShelf_wish N o pn ws v0 5 (fd_Parser_value oP / 10000).toInt64).bind (fun u => some (u.1, u.2.2, u.2.1, ids, at_, pm, gl, dt, cm)) := by
  unfold ex_Interpreter_doWish
  rw [if_pos (show nI 66 = 66 from rfl)]
  rfl

theorem wi_W0 {N : Nat} (oi : ob_Interpreter) (o : ob_FontShelf) (oP : ob_Parser) (ws pn gd ids at_ pm gl dt cm : Nat → Int32) (v2 : Int32) (v3 : Int64) : ex_Interpreter_doWish N oi o oP ws pn gd ids at_ pm gl dt cm (nI 0) (nI 87) v2 v3 = (ex_FontShelf_loadGlyph N o 4096 gd ids gl dt (fd_Parser_dataCount oP)).bind (fun u => some (u.1, ws, pn, ids, at_, pm, u.2.1, u.2.2, cm)) := by
  unfold ex_Interpreter_doWish
  rw [if_neg (show ¬ nI 87 = 66 by decide), if_neg (show ¬ nI 87 = 67 by decide), if_neg (show ¬ nI 87 = 68 by decide), if_neg (show ¬ nI 87 = 69 by decide), if_neg (show ¬ nI 87 = 70 by decide), if_neg (show ¬ nI 87 = 71 by decide), if_neg (show ¬ nI 87 = 72 by decide), if_neg (show ¬ nI 87 = 73 by decide), if_neg (show ¬ nI 87 = 74 by decide), if_neg (show ¬ nI 87 = 75 by decide), if_neg (show ¬ nI 87 = 76 by decide), if_neg (show ¬ nI 87 = 77 by decide), if_neg (show ¬ nI 87 = 78 by decide), if_neg (show ¬ nI 87 = 79 by decide), if_neg (show ¬ nI 87 = 80 by decide), if_neg (show ¬ nI 87 = 81 by decide), if_neg (show ¬ nI 87 = 82 by decide), if_neg (show ¬ nI 87 = 83 by decide), if_neg (show ¬ nI 87 = 84 by decide), if_neg (show ¬ nI 87 = 85 by decide), if_neg (show ¬ nI 87 = 86 by decide), if_pos (show nI 87 = 87 from rfl), if_pos (show nI 0 = 0 from rfl)]

theorem wi_W1 {N : Nat} (oi : ob_Interpreter) (o : ob_FontShelf) (oP : ob_Parser) (ws pn gd ids at_ pm gl dt cm : Nat → Int32) (v2 : Int32) (v3 : Int64) : ex_Interpreter_doWish N oi o oP ws pn gd ids at_ pm gl dt cm (nI 1) (nI 87) v2 v3 = (ex_FontShelf_loadFont N o 4096 gd ids cm at_ pm gl dt (fd_Parser_dataCount oP)).bind (fun u => some (u.1, ws, pn, u.2.1, u.2.2.2.1, u.2.2.2.2.1, u.2.2.2.2.2.1, u.2.2.2.2.2.2, u.2.2.1)) := by
  unfold ex_Interpreter_doWish
  rw [if_neg (show ¬ nI 87 = 66 by decide), if_neg (show ¬ nI 87 = 67 by decide), if_neg (show ¬ nI 87 = 68 by decide), if_neg (show ¬ nI 87 = 69 by decide), if_neg (show ¬ nI 87 = 70 by decide), if_neg (show ¬ nI 87 = 71 by decide), if_neg (show ¬ nI 87 = 72 by decide), if_neg (show ¬ nI 87 = 73 by decide), if_neg (show ¬ nI 87 = 74 by decide), if_neg (show ¬ nI 87 = 75 by decide), if_neg (show ¬ nI 87 = 76 by decide), if_neg (show ¬ nI 87 = 77 by decide), if_neg (show ¬ nI 87 = 78 by decide), if_neg (show ¬ nI 87 = 79 by decide), if_neg (show ¬ nI 87 = 80 by decide), if_neg (show ¬ nI 87 = 81 by decide), if_neg (show ¬ nI 87 = 82 by decide), if_neg (show ¬ nI 87 = 83 by decide), if_neg (show ¬ nI 87 = 84 by decide), if_neg (show ¬ nI 87 = 85 by decide), if_neg (show ¬ nI 87 = 86 by decide), if_pos (show nI 87 = 87 from rfl), if_neg (show ¬ nI 1 = 0 by decide)]

theorem wi_no {N e : Nat} (oi : ob_Interpreter) (o : ob_FontShelf) (oP : ob_Parser) (ws pn gd ids at_ pm gl dt cm : Nat → Int32) (v0 v2 : Int32) (v3 : Int64) (he : e < 256) (hn : e ≠ 66 ∧ e ≠ 72 ∧ e ≠ 80 ∧ e ≠ 83 ∧ e ≠ 84 ∧ e ≠ 86 ∧ e ≠ 87) : ex_Interpreter_doWish N oi o oP ws pn gd ids at_ pm gl dt cm v0 (nI e) v2 v3 = some (o, ws, pn, ids, at_, pm, gl, dt, cm) := by
  have ne : ∀ j : Nat, j < 256 → e ≠ j → ¬ nI e = nI j := fun j hj hne => mt (nI_eq (by omega) (by omega)).mp hne
  unfold ex_Interpreter_doWish
  simp only [if_neg (show ¬ nI e = 66 from ne 66 (by omega) (by omega)), if_neg (show ¬ nI e = 72 from ne 72 (by omega) (by omega)), if_neg (show ¬ nI e = 80 from ne 80 (by omega) (by omega)), if_neg (show ¬ nI e = 83 from ne 83 (by omega) (by omega)), if_neg (show ¬ nI e = 84 from ne 84 (by omega) (by omega)), if_neg (show ¬ nI e = 86 from ne 86 (by omega) (by omega)), if_neg (show ¬ nI e = 87 from ne 87 (by omega) (by omega)), ite_self]
