theorem oc_set {N d k r cp T e mm w : Nat} {v : Int} {p : Nat → Nat} {s : CS} {m : RS} (hN : 30000 < N) (hw : w < 2) (h : oH N d k r cp T (40 + w) 0 e mm v p s m) : oR N d T (10240 + 256 * w) s m := by
  have h' := h
  obtain ⟨hC, hSd, hcm, ⟨bf, bg, be, bm, bv1, bv2⟩, c1, c2, c3, hdt, y0, y1, y2, y3, y5⟩ := h'
  obtain ⟨n1, n2⟩ := ps_num (N := N) c2 ⟨bv1, bv2⟩
  have hw' : w = 0 ∨ w = 1 := by omega
  have go : kDo N s (nI (10240 + 256 * w)) = kSet N s (nI w) (nI e) (nI (v.toNat / 10000)) := by
    rcases hw' with q | q
    · subst q
      show kDo N s (nI 10240) = _
      rw [kd_10240]
      refine (bind_eq n1).trans ?_
      rw [c1]; rfl
    · subst q
      show kDo N s (nI 10496) = _
      rw [kd_10496]
      refine (bind_eq n1).trans ?_
      rw [c1]; rfl
  obtain ⟨n, hnd⟩ : ∃ n, n = v.toNat / 10000 := ⟨_, rfl⟩
  have hn : n ≤ 32767 := by omega
  have ho : ∀ m3, mFonW N m (nI w) (nI 0) (nI e) (nI n) (iI v) (nI mm) = some m3 → mOther N m = some m3 := by
    intro m3 hh
    rcases hw' with q | q
    · subst q
      refine mo_5_40 y0 y2 ⟨bv1, bv2⟩ ?_
      rw [y1, y2, y3, y5, ← hnd]; exact hh
    · subst q
      refine mo_5_41 y0 y2 ⟨bv1, bv2⟩ ?_
      rw [y1, y2, y3, y5, ← hnd]; exact hh
  rw [← hnd] at go
  by_cases q88 : e = 88
  · subst q88
    refine oc_pin (w := w) (i := n) (by omega) hw hn h ?_ ?_
    · intro o' pn' ws' hp
      rw [go]; unfold kSet
      refine Option.map_eq_some_iff.mpr ⟨(o', ws', pn'), ?_, rfl⟩
      unfold ex_Interpreter_doSet
      rw [if_pos (show nI 88 = 88 from rfl), hp]; rfl
    · intro om' pn' ws' c' dr' hdr hp
      refine ho _ ?_
      unfold mFonW
      refine Option.map_eq_some_iff.mpr ⟨(om', dr', ws', pn', m.g_shelf_ids, m.g_shelf_glyph, m.g_shelf_store, m.g_shelf_coming, m.g_shelf_bytes, m.g_shelf_attributes, m.g_shelf_permanent), ?_, rfl⟩
      rw [rf_pin, hdr]
      exact (bind_eq hp).trans rfl
  have n88 : ¬ nI e = 88 := mt (nI_eq (b := 88) (by omega) (by omega)).mp q88
  by_cases q : e < 65 ∨ 87 ≤ e
  · refine oc_id h ?_ (ho _ ?_)
    · rw [go]; unfold kSet
      refine Option.map_eq_some_iff.mpr ⟨(s.o_fonts, s.g_fonts_wishes, s.g_fonts_pins), ?_, rfl⟩
      unfold ex_Interpreter_doSet
      rw [if_neg n88]
      by_cases q5 : e < 65
      · rw [if_pos (show nI e < 65 from nI_lt (b := 65) q5 (by omega))]
      · rw [if_neg (show ¬ nI e < 65 from nI_nlt (b := 65) (by omega) (by omega)), if_pos (show (86 : Int32) < nI e from nI_lt (a := 86) (by omega) (by omega))]
    · unfold mFonW
      refine Option.map_eq_some_iff.mpr ⟨(m.o_shelf, m.g_shelf_draft, m.g_shelf_wishes, m.g_shelf_pins, m.g_shelf_ids, m.g_shelf_glyph, m.g_shelf_store, m.g_shelf_coming, m.g_shelf_bytes, m.g_shelf_attributes, m.g_shelf_permanent), ?_, rfl⟩
      rw [rf_set0 _ _ _ _ _ _ _ _ _ _ _ _ _ _ _ _ _ _ be q88 q]
  · have hz : ((32 * (nI n).toInt64) + (nI e).toInt64) - 64 = lI ((32 * n + e - 64 : Nat) : Int) := by
      rw [nI_lI (by omega), nI_lI (by omega)]
      have a1 : 32 * lI (n : Int) = lI (32 * (n : Int)) := lI_mul 32 _
      have a2 : lI (32 * (n : Int)) + lI (e : Int) = lI (32 * (n : Int) + e) := lI_add _ _
      have a3 : lI (32 * (n : Int) + e) - 64 = lI (32 * (n : Int) + e - 64) := lI_sub _ 64
      rw [a1, a2, a3]; congr 1; omega
    have hz2 : ((32 * nI n) + nI e) - 64 = iI ((32 * n + e - 64 : Nat) : Int) := by
      have a1 : 32 * nI n = nI (32 * n) := nI_Lmul n 32
      rw [a1, nI_add]
      have a3 : nI (32 * n + e) - 64 = nI (32 * n + e - 64) := nI_subL 64 (show 64 ≤ 32 * n + e by omega)
      rw [a3]; rfl
    refine oc_w (w := w) (a := 0) (z := ((32 * n + e - 64 : Nat) : Int)) (by omega) hw (by omega) (by omega) h ?_ ?_
    · intro o' pn' ws' hp
      rw [go]; unfold kSet
      refine Option.map_eq_some_iff.mpr ⟨(o', ws', pn'), ?_, rfl⟩
      unfold ex_Interpreter_doSet
      rw [if_neg n88, if_neg (show ¬ nI e < 65 from nI_nlt (b := 65) (by omega) (by omega)), if_neg (show ¬ (86 : Int32) < nI e from nI_nlt (a := 86) (by omega) (by omega)), hz]
      exact (bind_eq hp).trans rfl
    · intro om' dr' ws' pn' c' hp
      refine ho _ ?_
      unfold mFonW
      refine Option.map_eq_some_iff.mpr ⟨(om', dr', ws', pn', m.g_shelf_ids, m.g_shelf_glyph, m.g_shelf_store, m.g_shelf_coming, m.g_shelf_bytes, m.g_shelf_attributes, m.g_shelf_permanent), ?_, rfl⟩
      rw [rf_set _ _ _ _ _ _ _ _ _ _ _ _ _ _ _ _ _ _ (by omega) (by omega), hz2]
      exact (bind_eq hp).trans rfl

theorem oc_s72 {N d k r cp T mm w : Nat} {v : Int} {p : Nat → Nat} {s : CS} {m : RS} (hN : 30000 < N) (hw : w < 2) (h : oH N d k r cp T (40 + w) 115 72 mm v p s m) : oR N d T (10355 + 256 * w) s m := by
  have h' := h
  obtain ⟨hC, hSd, hcm, ⟨bf, bg, be, bm, bv1, bv2⟩, c1, c2, c3, hdt, y0, y1, y2, y3, y5⟩ := h'
  obtain ⟨n1, n2⟩ := ps_num (N := N) c2 ⟨bv1, bv2⟩
  have hw' : w = 0 ∨ w = 1 := by omega
  have go : kDo N s (nI (10355 + 256 * w)) = kWish N s (nI w) (nI 72) (nI (v.toNat / 10000)) (lI (v.toNat : Int)) := by
    rcases hw' with q | q
    · subst q
      show kDo N s (nI 10355) = _
      rw [kd_10355]
      refine (bind_eq n1).trans ((bind_eq n2).trans ?_)
      rw [c1]; rfl
    · subst q
      show kDo N s (nI 10611) = _
      rw [kd_10611]
      refine (bind_eq n1).trans ((bind_eq n2).trans ?_)
      rw [c1]; rfl
  obtain ⟨n, hnd⟩ : ∃ n, n = v.toNat / 10000 := ⟨_, rfl⟩
  have hn : n ≤ 32767 := by omega
  have ho : ∀ m3, mFonW N m (nI w) (nI 115) (nI 72) (nI n) (iI v) (nI mm) = some m3 → mOther N m = some m3 := by
    intro m3 hh
    rcases hw' with q | q
    · subst q
      refine mo_5_40 y0 y2 ⟨bv1, bv2⟩ ?_
      rw [y1, y2, y3, y5, ← hnd]; exact hh
    · subst q
      refine mo_5_41 y0 y2 ⟨bv1, bv2⟩ ?_
      rw [y1, y2, y3, y5, ← hnd]; exact hh
  rw [← hnd] at go
  have hz : lI (v.toNat : Int) / 100 = lI ((v.toNat / 100 : Nat) : Int) := by
    have e2 : lI (v.toNat : Int) / 100 = lI ((v.toNat : Int).tdiv 100) := lI_div (b := 100) (by omega) (by omega)
    rw [e2, Int.tdiv_eq_ediv_of_nonneg (by omega)]; rfl
  refine oc_w (w := w) (a := 2) (z := ((v.toNat / 100 : Nat) : Int)) (by omega) hw (by omega) (by omega) h ?_ ?_
  · intro o' pn' ws' hp
    rw [go]; unfold kWish
    refine Option.map_eq_some_iff.mpr ⟨(o', ws', pn', s.g_fonts_ids, s.g_fonts_attributes, s.g_fonts_permanent, s.g_fonts_glyphs, s.g_fonts_dots, s.g_fonts_coming), ?_, rfl⟩
    rw [wi_72, hz]
    exact (bind_eq hp).trans rfl
  · intro om' dr' ws' pn' c' hp
    refine ho _ ?_
    unfold mFonW
    refine Option.map_eq_some_iff.mpr ⟨(om', dr', ws', pn', m.g_shelf_ids, m.g_shelf_glyph, m.g_shelf_store, m.g_shelf_coming, m.g_shelf_bytes, m.g_shelf_attributes, m.g_shelf_permanent), ?_, rfl⟩
    rw [rf_72 _ _ _ _ _ _ _ _ _ _ _ _ _ _ _ _ _ ⟨bv1, bv2⟩]
    exact (bind_eq hp).trans rfl

theorem oc_s86 {N d k r cp T mm w : Nat} {v : Int} {p : Nat → Nat} {s : CS} {m : RS} (hN : 30000 < N) (hw : w < 2) (h : oH N d k r cp T (40 + w) 115 86 mm v p s m) : oR N d T (10355 + 256 * w) s m := by
  have h' := h
  obtain ⟨hC, hSd, hcm, ⟨bf, bg, be, bm, bv1, bv2⟩, c1, c2, c3, hdt, y0, y1, y2, y3, y5⟩ := h'
  obtain ⟨n1, n2⟩ := ps_num (N := N) c2 ⟨bv1, bv2⟩
  have hw' : w = 0 ∨ w = 1 := by omega
  have go : kDo N s (nI (10355 + 256 * w)) = kWish N s (nI w) (nI 86) (nI (v.toNat / 10000)) (lI (v.toNat : Int)) := by
    rcases hw' with q | q
    · subst q
      show kDo N s (nI 10355) = _
      rw [kd_10355]
      refine (bind_eq n1).trans ((bind_eq n2).trans ?_)
      rw [c1]; rfl
    · subst q
      show kDo N s (nI 10611) = _
      rw [kd_10611]
      refine (bind_eq n1).trans ((bind_eq n2).trans ?_)
      rw [c1]; rfl
  obtain ⟨n, hnd⟩ : ∃ n, n = v.toNat / 10000 := ⟨_, rfl⟩
  have hn : n ≤ 32767 := by omega
  have ho : ∀ m3, mFonW N m (nI w) (nI 115) (nI 86) (nI n) (iI v) (nI mm) = some m3 → mOther N m = some m3 := by
    intro m3 hh
    rcases hw' with q | q
    · subst q
      refine mo_5_40 y0 y2 ⟨bv1, bv2⟩ ?_
      rw [y1, y2, y3, y5, ← hnd]; exact hh
    · subst q
      refine mo_5_41 y0 y2 ⟨bv1, bv2⟩ ?_
      rw [y1, y2, y3, y5, ← hnd]; exact hh
  rw [← hnd] at go
  have hz : lI (v.toNat : Int) / 100 = lI ((v.toNat / 100 : Nat) : Int) := by
    have e2 : lI (v.toNat : Int) / 100 = lI ((v.toNat : Int).tdiv 100) := lI_div (b := 100) (by omega) (by omega)
    rw [e2, Int.tdiv_eq_ediv_of_nonneg (by omega)]; rfl
  refine oc_w (w := w) (a := 3) (z := ((v.toNat / 100 : Nat) : Int)) (by omega) hw (by omega) (by omega) h ?_ ?_
  · intro o' pn' ws' hp
    rw [go]; unfold kWish
    refine Option.map_eq_some_iff.mpr ⟨(o', ws', pn', s.g_fonts_ids, s.g_fonts_attributes, s.g_fonts_permanent, s.g_fonts_glyphs, s.g_fonts_dots, s.g_fonts_coming), ?_, rfl⟩
    rw [wi_86, hz]
    exact (bind_eq hp).trans rfl
  · intro om' dr' ws' pn' c' hp
    refine ho _ ?_
    unfold mFonW
    refine Option.map_eq_some_iff.mpr ⟨(om', dr', ws', pn', m.g_shelf_ids, m.g_shelf_glyph, m.g_shelf_store, m.g_shelf_coming, m.g_shelf_bytes, m.g_shelf_attributes, m.g_shelf_permanent), ?_, rfl⟩
    rw [rf_86 _ _ _ _ _ _ _ _ _ _ _ _ _ _ _ _ _ ⟨bv1, bv2⟩]
    exact (bind_eq hp).trans rfl

theorem oc_s80 {N d k r cp T mm w : Nat} {v : Int} {p : Nat → Nat} {s : CS} {m : RS} (hN : 30000 < N) (hw : w < 2) (h : oH N d k r cp T (40 + w) 115 80 mm v p s m) : oR N d T (10355 + 256 * w) s m := by
  have h' := h
  obtain ⟨hC, hSd, hcm, ⟨bf, bg, be, bm, bv1, bv2⟩, c1, c2, c3, hdt, y0, y1, y2, y3, y5⟩ := h'
  obtain ⟨n1, n2⟩ := ps_num (N := N) c2 ⟨bv1, bv2⟩
  have hw' : w = 0 ∨ w = 1 := by omega
  have go : kDo N s (nI (10355 + 256 * w)) = kWish N s (nI w) (nI 80) (nI (v.toNat / 10000)) (lI (v.toNat : Int)) := by
    rcases hw' with q | q
    · subst q
      show kDo N s (nI 10355) = _
      rw [kd_10355]
      refine (bind_eq n1).trans ((bind_eq n2).trans ?_)
      rw [c1]; rfl
    · subst q
      show kDo N s (nI 10611) = _
      rw [kd_10611]
      refine (bind_eq n1).trans ((bind_eq n2).trans ?_)
      rw [c1]; rfl
  obtain ⟨n, hnd⟩ : ∃ n, n = v.toNat / 10000 := ⟨_, rfl⟩
  have hn : n ≤ 32767 := by omega
  have ho : ∀ m3, mFonW N m (nI w) (nI 115) (nI 80) (nI n) (iI v) (nI mm) = some m3 → mOther N m = some m3 := by
    intro m3 hh
    rcases hw' with q | q
    · subst q
      refine mo_5_40 y0 y2 ⟨bv1, bv2⟩ ?_
      rw [y1, y2, y3, y5, ← hnd]; exact hh
    · subst q
      refine mo_5_41 y0 y2 ⟨bv1, bv2⟩ ?_
      rw [y1, y2, y3, y5, ← hnd]; exact hh
  rw [← hnd] at go
  refine oc_w (w := w) (a := 1) (z := (n : Int)) (by omega) hw (by omega) (by omega) h ?_ ?_
  · intro o' pn' ws' hp
    rw [go]; unfold kWish
    refine Option.map_eq_some_iff.mpr ⟨(o', ws', pn', s.g_fonts_ids, s.g_fonts_attributes, s.g_fonts_permanent, s.g_fonts_glyphs, s.g_fonts_dots, s.g_fonts_coming), ?_, rfl⟩
    rw [wi_80, nI_lI (show n < 2 ^ 31 by omega)]
    exact (bind_eq hp).trans rfl
  · intro om' dr' ws' pn' c' hp
    refine ho _ ?_
    unfold mFonW
    refine Option.map_eq_some_iff.mpr ⟨(om', dr', ws', pn', m.g_shelf_ids, m.g_shelf_glyph, m.g_shelf_store, m.g_shelf_coming, m.g_shelf_bytes, m.g_shelf_attributes, m.g_shelf_permanent), ?_, rfl⟩
    rw [rf_80]
    exact (bind_eq hp).trans rfl

theorem oc_s83 {N d k r cp T mm w : Nat} {v : Int} {p : Nat → Nat} {s : CS} {m : RS} (hN : 30000 < N) (hw : w < 2) (h : oH N d k r cp T (40 + w) 115 83 mm v p s m) : oR N d T (10355 + 256 * w) s m := by
  have h' := h
  obtain ⟨hC, hSd, hcm, ⟨bf, bg, be, bm, bv1, bv2⟩, c1, c2, c3, hdt, y0, y1, y2, y3, y5⟩ := h'
  obtain ⟨n1, n2⟩ := ps_num (N := N) c2 ⟨bv1, bv2⟩
  have hw' : w = 0 ∨ w = 1 := by omega
  have go : kDo N s (nI (10355 + 256 * w)) = kWish N s (nI w) (nI 83) (nI (v.toNat / 10000)) (lI (v.toNat : Int)) := by
    rcases hw' with q | q
    · subst q
      show kDo N s (nI 10355) = _
      rw [kd_10355]
      refine (bind_eq n1).trans ((bind_eq n2).trans ?_)
      rw [c1]; rfl
    · subst q
      show kDo N s (nI 10611) = _
      rw [kd_10611]
      refine (bind_eq n1).trans ((bind_eq n2).trans ?_)
      rw [c1]; rfl
  obtain ⟨n, hnd⟩ : ∃ n, n = v.toNat / 10000 := ⟨_, rfl⟩
  have hn : n ≤ 32767 := by omega
  have ho : ∀ m3, mFonW N m (nI w) (nI 115) (nI 83) (nI n) (iI v) (nI mm) = some m3 → mOther N m = some m3 := by
    intro m3 hh
    rcases hw' with q | q
    · subst q
      refine mo_5_40 y0 y2 ⟨bv1, bv2⟩ ?_
      rw [y1, y2, y3, y5, ← hnd]; exact hh
    · subst q
      refine mo_5_41 y0 y2 ⟨bv1, bv2⟩ ?_
      rw [y1, y2, y3, y5, ← hnd]; exact hh
  rw [← hnd] at go
  refine oc_w (w := w) (a := 4) (z := (n : Int)) (by omega) hw (by omega) (by omega) h ?_ ?_
  · intro o' pn' ws' hp
    rw [go]; unfold kWish
    refine Option.map_eq_some_iff.mpr ⟨(o', ws', pn', s.g_fonts_ids, s.g_fonts_attributes, s.g_fonts_permanent, s.g_fonts_glyphs, s.g_fonts_dots, s.g_fonts_coming), ?_, rfl⟩
    rw [wi_83, nI_lI (show n < 2 ^ 31 by omega)]
    exact (bind_eq hp).trans rfl
  · intro om' dr' ws' pn' c' hp
    refine ho _ ?_
    unfold mFonW
    refine Option.map_eq_some_iff.mpr ⟨(om', dr', ws', pn', m.g_shelf_ids, m.g_shelf_glyph, m.g_shelf_store, m.g_shelf_coming, m.g_shelf_bytes, m.g_shelf_attributes, m.g_shelf_permanent), ?_, rfl⟩
    rw [rf_83]
    exact (bind_eq hp).trans rfl

theorem oc_s84 {N d k r cp T mm w : Nat} {v : Int} {p : Nat → Nat} {s : CS} {m : RS} (hN : 30000 < N) (hw : w < 2) (h : oH N d k r cp T (40 + w) 115 84 mm v p s m) : oR N d T (10355 + 256 * w) s m := by
  have h' := h
  obtain ⟨hC, hSd, hcm, ⟨bf, bg, be, bm, bv1, bv2⟩, c1, c2, c3, hdt, y0, y1, y2, y3, y5⟩ := h'
  obtain ⟨n1, n2⟩ := ps_num (N := N) c2 ⟨bv1, bv2⟩
  have hw' : w = 0 ∨ w = 1 := by omega
  have go : kDo N s (nI (10355 + 256 * w)) = kWish N s (nI w) (nI 84) (nI (v.toNat / 10000)) (lI (v.toNat : Int)) := by
    rcases hw' with q | q
    · subst q
      show kDo N s (nI 10355) = _
      rw [kd_10355]
      refine (bind_eq n1).trans ((bind_eq n2).trans ?_)
      rw [c1]; rfl
    · subst q
      show kDo N s (nI 10611) = _
      rw [kd_10611]
      refine (bind_eq n1).trans ((bind_eq n2).trans ?_)
      rw [c1]; rfl
  obtain ⟨n, hnd⟩ : ∃ n, n = v.toNat / 10000 := ⟨_, rfl⟩
  have hn : n ≤ 32767 := by omega
  have ho : ∀ m3, mFonW N m (nI w) (nI 115) (nI 84) (nI n) (iI v) (nI mm) = some m3 → mOther N m = some m3 := by
    intro m3 hh
    rcases hw' with q | q
    · subst q
      refine mo_5_40 y0 y2 ⟨bv1, bv2⟩ ?_
      rw [y1, y2, y3, y5, ← hnd]; exact hh
    · subst q
      refine mo_5_41 y0 y2 ⟨bv1, bv2⟩ ?_
      rw [y1, y2, y3, y5, ← hnd]; exact hh
  rw [← hnd] at go
  refine oc_w (w := w) (a := 6) (z := (n : Int)) (by omega) hw (by omega) (by omega) h ?_ ?_
  · intro o' pn' ws' hp
    rw [go]; unfold kWish
    refine Option.map_eq_some_iff.mpr ⟨(o', ws', pn', s.g_fonts_ids, s.g_fonts_attributes, s.g_fonts_permanent, s.g_fonts_glyphs, s.g_fonts_dots, s.g_fonts_coming), ?_, rfl⟩
    rw [wi_84, nI_lI (show n < 2 ^ 31 by omega)]
    exact (bind_eq hp).trans rfl
  · intro om' dr' ws' pn' c' hp
    refine ho _ ?_
    unfold mFonW
    refine Option.map_eq_some_iff.mpr ⟨(om', dr', ws', pn', m.g_shelf_ids, m.g_shelf_glyph, m.g_shelf_store, m.g_shelf_coming, m.g_shelf_bytes, m.g_shelf_attributes, m.g_shelf_permanent), ?_, rfl⟩
    rw [rf_84]
    exact (bind_eq hp).trans rfl

theorem oc_s66 {N d k r cp T mm w : Nat} {v : Int} {p : Nat → Nat} {s : CS} {m : RS} (hN : 30000 < N) (hw : w < 2) (h : oH N d k r cp T (40 + w) 115 66 mm v p s m) : oR N d T (10355 + 256 * w) s m := by
  have h' := h
  obtain ⟨hC, hSd, hcm, ⟨bf, bg, be, bm, bv1, bv2⟩, c1, c2, c3, hdt, y0, y1, y2, y3, y5⟩ := h'
  obtain ⟨n1, n2⟩ := ps_num (N := N) c2 ⟨bv1, bv2⟩
  have hw' : w = 0 ∨ w = 1 := by omega
  have go : kDo N s (nI (10355 + 256 * w)) = kWish N s (nI w) (nI 66) (nI (v.toNat / 10000)) (lI (v.toNat : Int)) := by
    rcases hw' with q | q
    · subst q
      show kDo N s (nI 10355) = _
      rw [kd_10355]
      refine (bind_eq n1).trans ((bind_eq n2).trans ?_)
      rw [c1]; rfl
    · subst q
      show kDo N s (nI 10611) = _
      rw [kd_10611]
      refine (bind_eq n1).trans ((bind_eq n2).trans ?_)
      rw [c1]; rfl
  obtain ⟨n, hnd⟩ : ∃ n, n = v.toNat / 10000 := ⟨_, rfl⟩
  have hn : n ≤ 32767 := by omega
  have ho : ∀ m3, mFonW N m (nI w) (nI 115) (nI 66) (nI n) (iI v) (nI mm) = some m3 → mOther N m = some m3 := by
    intro m3 hh
    rcases hw' with q | q
    · subst q
      refine mo_5_40 y0 y2 ⟨bv1, bv2⟩ ?_
      rw [y1, y2, y3, y5, ← hnd]; exact hh
    · subst q
      refine mo_5_41 y0 y2 ⟨bv1, bv2⟩ ?_
      rw [y1, y2, y3, y5, ← hnd]; exact hh
  rw [← hnd] at go
  have hz : iI v / 10000 = iI (v.tdiv 10000) := iI_div (b := 10000) (by omega) (by omega)
  have hb := Int.tdiv_eq_ediv (a := v) (b := 10000)
  have hr : -2147483648 ≤ v.tdiv 10000 ∧ v.tdiv 10000 < 2147483648 := by
    rcases Int.le_total 0 v with q | q
    · rw [Int.tdiv_eq_ediv_of_nonneg q]; omega
    · have : v.tdiv 10000 = -((-v).tdiv 10000) := by rw [Int.neg_tdiv, Int.neg_neg]
      rw [this, Int.tdiv_eq_ediv_of_nonneg (by omega)]; omega
  refine oc_w (w := w) (a := 5) (z := v.tdiv 10000) (by omega) hw (by omega) hr h ?_ ?_
  · intro o' pn' ws' hp
    rw [go]; unfold kWish
    refine Option.map_eq_some_iff.mpr ⟨(o', ws', pn', s.g_fonts_ids, s.g_fonts_attributes, s.g_fonts_permanent, s.g_fonts_glyphs, s.g_fonts_dots, s.g_fonts_coming), ?_, rfl⟩
    rw [wi_66, c2, hz, iI_l hr]
    exact (bind_eq hp).trans rfl
  · intro om' dr' ws' pn' c' hp
    refine ho _ ?_
    unfold mFonW
    refine Option.map_eq_some_iff.mpr ⟨(om', dr', ws', pn', m.g_shelf_ids, m.g_shelf_glyph, m.g_shelf_store, m.g_shelf_coming, m.g_shelf_bytes, m.g_shelf_attributes, m.g_shelf_permanent), ?_, rfl⟩
    rw [rf_66, hz]
    exact (bind_eq hp).trans rfl

theorem oc_s0 {N d k r cp T e mm w : Nat} {v : Int} {p : Nat → Nat} {s : CS} {m : RS} (hN : 30000 < N) (hw : w < 2) (he : e ≠ 66 ∧ e ≠ 72 ∧ e ≠ 80 ∧ e ≠ 83 ∧ e ≠ 84 ∧ e ≠ 86 ∧ e ≠ 87) (h : oH N d k r cp T (40 + w) 115 e mm v p s m) : oR N d T (10355 + 256 * w) s m := by
  have h' := h
  obtain ⟨hC, hSd, hcm, ⟨bf, bg, be, bm, bv1, bv2⟩, c1, c2, c3, hdt, y0, y1, y2, y3, y5⟩ := h'
  obtain ⟨n1, n2⟩ := ps_num (N := N) c2 ⟨bv1, bv2⟩
  have hw' : w = 0 ∨ w = 1 := by omega
  have go : kDo N s (nI (10355 + 256 * w)) = kWish N s (nI w) (nI e) (nI (v.toNat / 10000)) (lI (v.toNat : Int)) := by
    rcases hw' with q | q
    · subst q
      show kDo N s (nI 10355) = _
      rw [kd_10355]
      refine (bind_eq n1).trans ((bind_eq n2).trans ?_)
      rw [c1]; rfl
    · subst q
      show kDo N s (nI 10611) = _
      rw [kd_10611]
      refine (bind_eq n1).trans ((bind_eq n2).trans ?_)
      rw [c1]; rfl
  obtain ⟨n, hnd⟩ : ∃ n, n = v.toNat / 10000 := ⟨_, rfl⟩
  have hn : n ≤ 32767 := by omega
  have ho : ∀ m3, mFonW N m (nI w) (nI 115) (nI e) (nI n) (iI v) (nI mm) = some m3 → mOther N m = some m3 := by
    intro m3 hh
    rcases hw' with q | q
    · subst q
      refine mo_5_40 y0 y2 ⟨bv1, bv2⟩ ?_
      rw [y1, y2, y3, y5, ← hnd]; exact hh
    · subst q
      refine mo_5_41 y0 y2 ⟨bv1, bv2⟩ ?_
      rw [y1, y2, y3, y5, ← hnd]; exact hh
  rw [← hnd] at go
  refine oc_id h ?_ (ho _ ?_)
  · rw [go]; unfold kWish
    refine Option.map_eq_some_iff.mpr ⟨(s.o_fonts, s.g_fonts_wishes, s.g_fonts_pins, s.g_fonts_ids, s.g_fonts_attributes, s.g_fonts_permanent, s.g_fonts_glyphs, s.g_fonts_dots, s.g_fonts_coming), ?_, rfl⟩
    rw [wi_no _ _ _ _ _ _ _ _ _ _ _ _ _ _ _ be he]
  · unfold mFonW
    refine Option.map_eq_some_iff.mpr ⟨(m.o_shelf, m.g_shelf_draft, m.g_shelf_wishes, m.g_shelf_pins, m.g_shelf_ids, m.g_shelf_glyph, m.g_shelf_store, m.g_shelf_coming, m.g_shelf_bytes, m.g_shelf_attributes, m.g_shelf_permanent), ?_, rfl⟩
    rw [rf_115n _ _ _ _ _ _ _ _ _ _ _ _ _ _ _ _ _ _ be he]

theorem oc_s87 {N d k r cp T mm w : Nat} {v : Int} {p : Nat → Nat} {s : CS} {m : RS} (hN : 30000 < N) (hw : w < 2) (h : oH N d k r cp T (40 + w) 115 87 mm v p s m) : oR N d T (10355 + 256 * w) s m := by
  have h' := h
  obtain ⟨hC, hSd, hcm, ⟨bf, bg, be, bm, bv1, bv2⟩, c1, c2, c3, hdt, y0, y1, y2, y3, y5⟩ := h'
  obtain ⟨n1, n2⟩ := ps_num (N := N) c2 ⟨bv1, bv2⟩
  have hw' : w = 0 ∨ w = 1 := by omega
  have go : kDo N s (nI (10355 + 256 * w)) = kWish N s (nI w) (nI 87) (nI (v.toNat / 10000)) (lI (v.toNat : Int)) := by
    rcases hw' with q | q
    · subst q
      show kDo N s (nI 10355) = _
      rw [kd_10355]
      refine (bind_eq n1).trans ((bind_eq n2).trans ?_)
      rw [c1]; rfl
    · subst q
      show kDo N s (nI 10611) = _
      rw [kd_10611]
      refine (bind_eq n1).trans ((bind_eq n2).trans ?_)
      rw [c1]; rfl
  obtain ⟨n, hnd⟩ : ∃ n, n = v.toNat / 10000 := ⟨_, rfl⟩
  have hn : n ≤ 32767 := by omega
  have ho : ∀ m3, mFonW N m (nI w) (nI 115) (nI 87) (nI n) (iI v) (nI mm) = some m3 → mOther N m = some m3 := by
    intro m3 hh
    rcases hw' with q | q
    · subst q
      refine mo_5_40 y0 y2 ⟨bv1, bv2⟩ ?_
      rw [y1, y2, y3, y5, ← hnd]; exact hh
    · subst q
      refine mo_5_41 y0 y2 ⟨bv1, bv2⟩ ?_
      rw [y1, y2, y3, y5, ← hnd]; exact hh
  rw [← hnd] at go
  obtain ⟨F, fn, fu, hS, f2, f3⟩ := hC.2.2.1
  rcases hw' with q | q
  · subst q
    obtain ⟨n', u', o', om', gg', gdt', gm', gst', cm', gB', e1, e2, e3, e4⟩ := sl_loadGlyph (N := N) (or := m.o_this) (od := m.o_desk) (cm := m.g_shelf_coming) (gB := m.g_shelf_bytes) hN hdt hS
    refine oc_fo (o := o') (om := om') (ids := s.g_fonts_ids) (at_ := s.g_fonts_attributes) (pm := s.g_fonts_permanent) (gl := gg') (dt := gdt') (ws := s.g_fonts_wishes) (pn := s.g_fonts_pins) (cm := s.g_fonts_coming) (ids' := m.g_shelf_ids) (at' := m.g_shelf_attributes) (pm' := m.g_shelf_permanent) (gl' := gm') (st := gst') (dr := m.g_shelf_draft) (ws' := m.g_shelf_wishes) (pn' := m.g_shelf_pins) (cm' := cm') (by_ := gB') h rfl rfl ?_ (ho _ ?_) ⟨F, n', u', e3, f2, ?_⟩
    · rw [go]; unfold kWish
      refine Option.map_eq_some_iff.mpr ⟨(o', s.g_fonts_wishes, s.g_fonts_pins, s.g_fonts_ids, s.g_fonts_attributes, s.g_fonts_permanent, gg', gdt', s.g_fonts_coming), ?_, rfl⟩
      rw [wi_W0, c3]
      exact (bind_eq e1).trans rfl
    · unfold mFonW
      refine Option.map_eq_some_iff.mpr ⟨(om', m.g_shelf_draft, m.g_shelf_wishes, m.g_shelf_pins, m.g_shelf_ids, gm', gst', cm', gB', m.g_shelf_attributes, m.g_shelf_permanent), ?_, rfl⟩
      rw [rf_W0]
      exact (bind_eq e2).trans rfl
    · rw [e4]; exact f3
  · subst q
    obtain ⟨F', n', u', o', om', ic', pc', ac', gg', gdt', im', pm', am', gm', gst', cm', dr', e1, e2, e3, e4⟩ := sl_loadFont (N := N) (or := m.o_this) (od := m.o_desk) (cm := s.g_fonts_coming) (dr := m.g_shelf_draft) hN hdt hS
    refine oc_fo (o := o') (om := om') (ids := ic') (at_ := ac') (pm := pc') (gl := gg') (dt := gdt') (ws := s.g_fonts_wishes) (pn := s.g_fonts_pins) (cm := cm') (ids' := im') (at' := am') (pm' := pm') (gl' := gm') (st := gst') (dr := dr') (ws' := m.g_shelf_wishes) (pn' := m.g_shelf_pins) (cm' := m.g_shelf_coming) (by_ := m.g_shelf_bytes) h rfl rfl ?_ (ho _ ?_) ⟨F', n', u', e3, f2, ?_⟩
    · rw [go]; unfold kWish
      refine Option.map_eq_some_iff.mpr ⟨(o', s.g_fonts_wishes, s.g_fonts_pins, ic', ac', pc', gg', gdt', cm'), ?_, rfl⟩
      rw [wi_W1, c3]
      exact (bind_eq e1).trans rfl
    · unfold mFonW
      refine Option.map_eq_some_iff.mpr ⟨(om', dr', m.g_shelf_wishes, m.g_shelf_pins, im', gm', gst', m.g_shelf_coming, m.g_shelf_bytes, am', pm'), ?_, rfl⟩
      rw [rf_W1]
      exact (bind_eq e2).trans rfl
    · rcases e4 with q | ⟨q1, q2, q3, q4⟩
      · exact Or.inl q
      · subst q1; subst q2; subst q3; subst q4
        have hF : F' = F := (nI_eq (by have := e3.1.1; omega) (by have := hS.1.1; omega)).mp (e3.2.1.symm.trans hS.2.1)
        subst hF
        rcases f3 with q | ⟨q, q2⟩
        · exact Or.inl q
        · exact Or.inr ⟨q, chM_move (by omega) hS.2.1 hS.1 f2 e3.1 f2 q2⟩

theorem oc_wish {N d k r cp T e mm w : Nat} {v : Int} {p : Nat → Nat} {s : CS} {m : RS} (hN : 30000 < N) (hw : w < 2) (h : oH N d k r cp T (40 + w) 115 e mm v p s m) : oR N d T (10355 + 256 * w) s m := by
  by_cases q66 : e = 66
  · subst q66; exact oc_s66 hN hw h
  by_cases q72 : e = 72
  · subst q72; exact oc_s72 hN hw h
  by_cases q80 : e = 80
  · subst q80; exact oc_s80 hN hw h
  by_cases q83 : e = 83
  · subst q83; exact oc_s83 hN hw h
  by_cases q84 : e = 84
  · subst q84; exact oc_s84 hN hw h
  by_cases q86 : e = 86
  · subst q86; exact oc_s86 hN hw h
  by_cases q87 : e = 87
  · subst q87; exact oc_s87 hN hw h
  exact oc_s0 hN hw ⟨q66, q72, q80, q83, q84, q86, q87⟩ h

theorem oc_f0 {N d k r cp T e gr mm w : Nat} {v : Int} {p : Nat → Nat} {s : CS} {m : RS} (hN : 30000 < N) (hw : w < 2) (hg0 : gr ≠ 0) (hg1 : gr ≠ 115) (h : oH N d k r cp T (40 + w) gr e mm v p s m) : oR N d T (256 * (40 + w) + gr) s m := by
  have h' := h
  obtain ⟨hC, hSd, hcm, ⟨bf, bg, be, bm, bv1, bv2⟩, c1, c2, c3, hdt, y0, y1, y2, y3, y5⟩ := h'
  obtain ⟨n1, n2⟩ := ps_num (N := N) c2 ⟨bv1, bv2⟩
  have hw' : w = 0 ∨ w = 1 := by omega
  obtain ⟨n, hnd⟩ : ∃ n, n = v.toNat / 10000 := ⟨_, rfl⟩
  have hn : n ≤ 32767 := by omega
  have ho : ∀ m3, mFonW N m (nI w) (nI gr) (nI e) (nI n) (iI v) (nI mm) = some m3 → mOther N m = some m3 := by
    intro m3 hh
    rcases hw' with q | q
    · subst q
      refine mo_5_40 y0 y2 ⟨bv1, bv2⟩ ?_
      rw [y1, y2, y3, y5, ← hnd]; exact hh
    · subst q
      refine mo_5_41 y0 y2 ⟨bv1, bv2⟩ ?_
      rw [y1, y2, y3, y5, ← hnd]; exact hh
  refine oc_id h (kd_no (by omega) (by omega)) (ho _ ?_)
  unfold mFonW
  refine Option.map_eq_some_iff.mpr ⟨(m.o_shelf, m.g_shelf_draft, m.g_shelf_wishes, m.g_shelf_pins, m.g_shelf_ids, m.g_shelf_glyph, m.g_shelf_store, m.g_shelf_coming, m.g_shelf_bytes, m.g_shelf_attributes, m.g_shelf_permanent), ?_, rfl⟩
  rw [rf_no _ _ _ _ _ _ _ _ _ _ _ _ _ _ _ _ _ _ _ bg hg0 hg1]
theorem cmd_no {f gr e k r n : Nat} {v : Int} {sg : Bool} {p : Nat → Nat} (h : knB f gr e = false) : cmdN f gr e k r p n v sg = p := by
  unfold knB at h
  unfold cmdN
  by_cases a1 : f = 38 ∧ gr = 108
  · rw [if_pos a1] at h ⊢
    simp only [Bool.or_eq_false_iff, beq_eq_false_iff_ne] at h
    rw [if_neg (by omega), if_neg (by omega), if_neg (by omega), if_neg (by omega), if_neg (by omega)]
  rw [if_neg a1] at h ⊢
  by_cases a2 : f = 38 ∧ gr = 107
  · rw [if_pos a2] at h ⊢
    simp only [Bool.or_eq_false_iff, beq_eq_false_iff_ne] at h
    rw [if_neg (by omega), if_neg (by omega)]
  rw [if_neg a2] at h ⊢
  by_cases a3 : f = 38 ∧ gr = 97
  · rw [if_pos a3] at h ⊢
    simp only [Bool.or_eq_false_iff, beq_eq_false_iff_ne] at h
    rw [if_neg (by omega), if_neg (by omega), if_neg (by omega), if_neg (by omega), if_neg (by omega), if_neg (by omega)]
  rw [if_neg a3] at h ⊢
  by_cases a4 : f = 38 ∧ gr = 115
  · rw [if_pos a4] at h ⊢
    simp only [beq_eq_false_iff_ne] at h
    rw [if_neg h]
  rw [if_neg a4] at h ⊢
  by_cases a5 : f = 38 ∧ gr = 102
  · rw [if_pos a5] at h ⊢
    simp only [beq_eq_false_iff_ne] at h
    rw [if_neg h]
  rw [if_neg a5] at h ⊢
  by_cases a6 : f = 42 ∧ gr = 112
  · rw [if_pos a6] at h ⊢
    simp only [Bool.or_eq_false_iff, beq_eq_false_iff_ne] at h
    rw [if_neg (by omega), if_neg (by omega)]
  rw [if_neg a6]
theorem oc_pg {N d k r cp T f gr e mm : Nat} {v : Int} {sg : Bool} {p : Nat → Nat} {s : CS} {m : RS} (hsg : fd_Parser_signed s.o_interpreter_parser = nI sg.toNat) (hkn : knB f gr e = false) (hc : (f = 38 ∧ (gr = 108 ∨ gr = 107 ∨ gr = 97 ∨ gr = 115)) ∨ (f = 42 ∧ gr = 112)) (h : oH N d k r cp T f gr e mm v p s m) : oR N d T (256 * f + gr) s m := by
  have h' := h
  obtain ⟨hC, hSd, hcm, ⟨bf, bg, be, bm, bv1, bv2⟩, c1, c2, c3, hdt, y0, y1, y2, y3, y5⟩ := h'
  obtain ⟨n1, n2⟩ := ps_num (N := N) c2 ⟨bv1, bv2⟩
  have hn : v.toNat / 10000 ≤ 32767 := by omega
  obtain ⟨pd, pk, pr, pcp, pp, pok, pst, pdk, pd1, pd2⟩ := hC.1
  have hno := fun n => cmd_no (k := k) (r := r) (n := n) (v := v) (sg := sg) (p := p) hkn
  have ne1 : ∀ j : Nat, j < 256 → gr ≠ j → ¬ m.g_desk_other 1 = nI j := fun j hj hne => by rw [y1]; exact mt (nI_eq (by omega) (by omega)).mp hne
  rcases hc with ⟨rfl, hc⟩ | ⟨rfl, rfl⟩
  · refine oc_id h ?_ (mo_n38 y0 (ne1 102 (by omega) (by omega)) y2 ⟨bv1, bv2⟩ rfl)
    rcases hc with rfl | rfl | rfl | rfl
    · have hkn' := hkn
      unfold knB at hkn'
      rw [if_pos ⟨rfl, rfl⟩] at hkn'
      simp only [Bool.or_eq_false_iff, beq_eq_false_iff_ne] at hkn'
      have hl := ic_layout (N := N) (d := d) (cp := cp) (oi := s.o_interpreter) (oS := s.o_sheet) (sg := sg) (v := v) pk pr pok be hn bv2 (by omega) (by omega)
      rw [if_neg (by omega), hno] at hl
      show kDo N s (nI 9836) = _
      rw [kd_9836]
      refine (bind_eq n1).trans ((bind_eq n2).trans ?_)
      rw [c1]
      unfold kLayout
      refine Option.map_eq_some_iff.mpr ⟨(s.o_interpreter, s.o_page), ?_, rfl⟩
      rw [pp]; exact hl
    · have hl := ic_text (N := N) (d := d) (k := k) (r := r) (cp := cp) (p := p) (oi := s.o_interpreter) (sg := sg) (v := v) be hn bv2
      rw [hno] at hl
      show kDo N s (nI 9835) = _
      rw [kd_9835]
      refine (bind_eq n1).trans ((bind_eq n2).trans ?_)
      rw [c1]
      unfold kText
      refine Option.map_eq_some_iff.mpr ⟨s.o_page, ?_, rfl⟩
      rw [pp]; exact hl
    · have hl := ic_place (N := N) (d := d) (cp := cp) (oi := s.o_interpreter) pk pr pok be hn ⟨bv1, bv2⟩ c2 hsg
      rw [hno] at hl
      show kDo N s (nI 9825) = _
      rw [kd_9825]
      refine (bind_eq n1).trans ?_
      rw [c1]
      unfold kPlace
      refine Option.map_eq_some_iff.mpr ⟨s.o_page, ?_, rfl⟩
      rw [pp]; exact hl
    · have hl := ic_wrap (N := N) (d := d) (k := k) (r := r) (cp := cp) (p := p) (oi := s.o_interpreter) (sg := sg) (v := v) pok.2.2.2.2.2.2.2.2.1 be hn
      rw [hno] at hl
      show kDo N s (nI 9843) = _
      rw [kd_9843]
      refine (bind_eq n1).trans ?_
      rw [c1]
      unfold kWrap
      refine Option.map_eq_some_iff.mpr ⟨s.o_page, ?_, rfl⟩
      rw [pp]; exact hl
  · refine oc_id h ?_ (mo_n42 y0 (ne1 99 (by omega) (by omega)) (ne1 118 (by omega) (by omega)) (ne1 116 (by omega) (by omega)) (ne1 114 (by omega) (by omega)) (ne1 98 (by omega) (by omega)) y2 ⟨bv1, bv2⟩ rfl)
    have hl := ic_dot (N := N) (d := d) (cp := cp) (n := 0) (oi := s.o_interpreter) pk pr pok be ⟨bv1, bv2⟩ c2 hsg
    rw [hno] at hl
    show kDo N s (nI 10864) = _
    rw [kd_10864, c1]
    unfold kDotP
    refine Option.map_eq_some_iff.mpr ⟨s.o_page, ?_, rfl⟩
    rw [pp]; exact hl
/-- every command that is handed on -/
theorem oc_all {N d k r cp T f gr e mm : Nat} {v : Int} {sg : Bool} {p : Nat → Nat} {s : CS} {m : RS} (hN : 2 ^ 22 < N) (hT : T ≤ 134000000) (hf : 1 ≤ f) (hsg : fd_Parser_signed s.o_interpreter_parser = nI sg.toNat) (hkn : knB f gr e = false) (h : oH N d k r cp T f gr e mm v p s m) : oR N d T (256 * f + gr) s m := by
  have h' := h
  obtain ⟨hC, hSd, hcm, ⟨bf, bg, be, bm, bv1, bv2⟩, c1, c2, c3, hdt, y0, y1, y2, y3, y5⟩ := h'
  have ne0 : ∀ j : Nat, j < 256 → f ≠ j → ¬ m.g_desk_other 0 = nI j := fun j hj hne => by rw [y0]; exact mt (nI_eq (by omega) (by omega)).mp hne
  have ne1 : ∀ j : Nat, j < 256 → gr ≠ j → ¬ m.g_desk_other 1 = nI j := fun j hj hne => by rw [y1]; exact mt (nI_eq (by omega) (by omega)).mp hne
  by_cases hp : (f = 38 ∧ (gr = 108 ∨ gr = 107 ∨ gr = 97 ∨ gr = 115)) ∨ (f = 42 ∧ gr = 112)
  · exact oc_pg hsg hkn hp h
  by_cases h42 : f = 42
  · subst h42
    by_cases q99 : gr = 99
    · subst q99; exact oc_c hN h
    by_cases q118 : gr = 118
    · subst q118; exact oc_ink h
    by_cases q116 : gr = 116
    · subst q116; exact oc_t h
    by_cases q114 : gr = 114
    · subst q114; exact oc_r (by omega) (by omega) h
    by_cases q98 : gr = 98
    · subst q98; exact oc_b hN hT h
    exact oc_id h (kd_no (by omega) (by omega)) (mo_n42 y0 (ne1 99 (by omega) q99) (ne1 118 (by omega) q118) (ne1 116 (by omega) q116) (ne1 114 (by omega) q114) (ne1 98 (by omega) q98) y2 ⟨bv1, bv2⟩ rfl)
  by_cases h38 : f = 38
  · subst h38
    by_cases q102 : gr = 102
    · subst q102
      refine oc_m ?_ h
      intro he
      subst he
      exact absurd hkn (by decide)
    exact oc_id h (kd_no (by omega) (by omega)) (mo_n38 y0 (ne1 102 (by omega) q102) y2 ⟨bv1, bv2⟩ rfl)
  by_cases h40 : f = 40 ∨ f = 41
  · obtain ⟨w, hw, rfl⟩ : ∃ w, w < 2 ∧ f = 40 + w := ⟨f - 40, by omega, by omega⟩
    by_cases g0 : gr = 0
    · subst g0
      have := oc_set (by omega) hw h
      rw [show 256 * (40 + w) + 0 = 10240 + 256 * w by omega]; exact this
    by_cases g1 : gr = 115
    · subst g1
      have := oc_wish (by omega) hw h
      rw [show 256 * (40 + w) + 115 = 10355 + 256 * w by omega]; exact this
    exact oc_f0 (by omega) hw g0 g1 h
  exact oc_id h (kd_no (by omega) (by omega)) (mo_n (ne0 42 (by omega) h42) (ne0 38 (by omega) h38) (ne0 40 (by omega) (by omega)) (ne0 41 (by omega) (by omega)) y2 ⟨bv1, bv2⟩ rfl)
/-- a command that is handed on, whole -/
theorem st_H {N d k r cp T lv a z b i f gr e mm : Nat} {v : Int} {sg la : Bool} {p : Nat → Nat} {s : CS} {m : RS} {lm : Nat → Int32} {own gl : Int32} {o' : ob_Parser} {gd' : Nat → Int32} {om' : ob_mDesk} {g' go' gs' : Nat → Int32} (hN : 2 ^ 22 < N) (hT : T ≤ 134000000) (hC : cCo N d k r cp T p s m) (hSd : cSd s m) (hL : lvB lv a z b s) (hpre : mByte N m (nI b) = (mIsSeq N (mAdvd m lm i own)).bind (fun was => (mDesk N (mAdvd m lm i own) (nI b)).bind (fun s2 => mPost N (mAdvd m lm i own) s2 gl was)))
    (ht : ex_Parser_take N s.o_interpreter_parser s.g_interpreter_parser_data (nI b) = some (o', gd', evM la)) (hdk : ex_mDesk_comes N (fs_mDesk_thrown m.o_desk 0) m.g_desk_state m.g_desk_page (upd m.g_desk_steps i own) m.g_desk_glyph m.g_desk_other m.g_desk_store (nI b) = some (om', g', m.g_desk_page, m.g_desk_glyph, go', gs')) (hQ : dkQ m.o_desk om') (hM : dkM k r cp p om' g') (hcm : fd_mDesk_came om' = 0) (hot : fd_mDesk_others om' = 1) (hsto : fd_mDesk_stored om' = nI mm) (hmm : mm ≤ 4096) (hph : fd_mDesk_phase om' = (if la then 0 else 3)) (hG : psG f gr o' om') (hFm : fldM 0 0 0 0 0 om') (t10 : fldC 0 0 0 0 0 o') (t11 : fd_Parser_mode o' = (if la then 0 else 3)) (t18 : ¬ fd_mDesk_phase m.o_desk ≤ 1)
    (he : e < 256) (c1 : fd_Parser_end o' = nI e) (c2 : fd_Parser_value o' = iI v) (hsg : fd_Parser_signed o' = nI sg.toNat) (hv : -327679999 ≤ v ∧ v ≤ 327679999) (c3 : fd_Parser_dataCount o' = nI mm) (hdt : dtR mm gd' gs') (y0 : go' 0 = nI f) (y1 : go' 1 = nI gr) (y2 : go' 2 = iI v) (y3 : go' 3 = nI e) (y5 : go' 5 = nI mm) (y6 : go' 6 = 0) (hkn : knB f gr e = false) : bR N d T lv a b s m := by
  have hC0 := hC
  obtain ⟨hPg, hSh, hFo, hKn, hRa, hMa, hFl, hFa, hIt⟩ := hC
  obtain ⟨pd, pk, pr, pcp, pp, pok, pst, pdk, pd1, pd2⟩ := hPg
  obtain ⟨s1, hs1⟩ : ∃ s1, s1 = kPut s (upd s.g_interpreter_at lv (nI (a + 1))) o' gd' := ⟨_, rfl⟩
  obtain ⟨m2, hm2⟩ : ∃ m2, m2 = mDk (mAdvd m lm i own) (om', g', m.g_desk_page, m.g_desk_glyph, go', gs') := ⟨_, rfl⟩
  have hH : oH N d k r cp T f gr e mm v p s1 m2 := by
    have xSh : cSh T d k r s1 m2 := by rw [hs1, hm2]; exact cSh_Q hSh hQ rfl rfl rfl rfl
    rw [hs1, hm2] at xSh ⊢
    exact ⟨⟨⟨pd, pk, pr, pcp, pp, pok, pst, hM, pd1, pd2⟩, xSh, hFo, hRa, hMa, hFl, hFa, hIt⟩, hSd, hcm, ⟨hG.1.2, hG.2.1, he, hmm, hv.1, hv.2⟩, c1, c2, c3, hdt, y0, y1, y2, y3, y5⟩
  have hsg1 : fd_Parser_signed s1.o_interpreter_parser = nI sg.toNat := by rw [hs1]; exact hsg
  obtain ⟨x, m3, k', r', cp', p', e1, e2, e3, e4, e5, e6, e7, e8, e9, e10⟩ := oc_all hN hT hG.1.1 hsg1 hkn hH
  obtain ⟨i1, i2, i3, i4, i5, i6, i7, i8, i9, i10, i11, i12⟩ := e8
  rw [hs1] at e1 i1 i2 i3 i4 i5 i6 i7 i8 i9 i10 i11 i12 e10
  have hrf : rfM m m3 := by rw [hm2] at e9; exact e9
  have hdF : dkF om' m3.o_desk := by rw [hm2] at e5; exact e5
  have hgo : m3.g_desk_other = go' := by rw [hm2] at e7; exact e7
  have hlf : lvF lv a s x := ⟨i3, i4, i8, i7, i12, by rw [i1]; rfl⟩
  exact st_O (la := la) hN hC0 hL hpre ht hG.1.2 hG.2.1 hG.2.2.1 hG.2.2.2.2.1 hdk hm2 hQ hM hcm hot hsto hmm y5 y6 hph hG hFm t10 t11 t18 e1 e2 e3 e4 hdF e6 hgo ⟨i2, i11⟩ hrf e10 hlf ⟨i9, i10, i5, i6⟩
/-- a command without bytes behind it that is handed on -/
theorem st_M3 {N d k r cp T lv a z b i : Nat} {p : Nat → Nat} {s : CS} {m : RS} {lm : Nat → Int32} {own gl : Int32} (hN : 2 ^ 22 < N) (hT : T ≤ 134000000) (hC : cCo N d k r cp T p s m) (hSd : cSd s m) (hL : lvB lv a z b s) (hpre : mByte N m (nI b) = (mIsSeq N (mAdvd m lm i own)).bind (fun was => (mDesk N (mAdvd m lm i own) (nI b)).bind (fun s2 => mPost N (mAdvd m lm i own) s2 gl was)))
    {o' : ob_Parser} {om1 : ob_mDesk} {f gr e ph sg wh bh pl : Nat} {la : Bool} (t1 : ex_Parser_take N s.o_interpreter_parser s.g_interpreter_parser_data (nI b) = some (o', s.g_interpreter_parser_data, if la then 12 else 4))
    (t2 : ex_mDesk_comes N (fs_mDesk_thrown m.o_desk 0) m.g_desk_state m.g_desk_page (upd m.g_desk_steps i own) m.g_desk_glyph m.g_desk_other m.g_desk_store (nI b) = (ex_mDesk_command N om1 m.g_desk_state m.g_desk_page m.g_desk_other (nI e) (nI la.toNat)).bind (fun u => some (u.1, u.2.1, u.2.2.1, m.g_desk_glyph, u.2.2.2, m.g_desk_store)))
    (t3 : dkQ m.o_desk om1) (t4 : fd_mDesk_came om1 = 0) (t5 : psN om1) (t6 : psG f gr o' om1) (t7 : e < 256) (t8 : fldN ph sg wh bh pl) (t9 : fldM ph sg wh bh pl om1) (t10 : fldC 0 0 0 0 0 o') (t11 : fd_Parser_mode o' = (if la then 0 else 3)) (t12 : fd_Parser_end o' = nI e) (t13 : fd_Parser_value o' = iI (vOf sg wh bh pl)) (t14 : fd_Parser_signed o' = nI (decide (sg ≠ 0)).toNat) (t15 : fd_Parser_dataCount o' = 0) (t16 : e = 87 → nOf sg wh = 0) (t18 : ¬ fd_mDesk_phase m.o_desk ≤ 1)
    (hkn : knB f gr e = false) (htx : ¬ (f = 38 ∧ gr = 112 ∧ e = 88)) : bR N d T lv a b s m := by
  have hPg := hC.1
  obtain ⟨pd, pk, pr, pcp, pp, pok, pst, pdk, pd1, pd2⟩ := hPg
  obtain ⟨bf, bg, f1, f2, g1, g2⟩ := t6
  have hvb := vOf_bound t8
  have hnof : nOf sg wh ≤ 32767 := by have := t8.2.2.1; unfold nOf; split <;> omega
  have hM1 : dkM k r cp p om1 m.g_desk_state := dkM_Q pdk t3
  have ph0 : ∀ la : Bool, phD 0 la = if la then 0 else 3 := fun la => by cases la <;> rfl
  obtain ⟨omx, homx⟩ : ∃ omx, omx = fs_mDesk_dataTo (fs_mDesk_last (fs_mDesk_dataLeft om1 (nI (if e = 87 then nOf sg wh else 0))) (nI la.toNat)) 0 := ⟨_, rfl⟩
  have hdl : (if e = 87 then nOf sg wh else 0) = 0 := by
    by_cases q : e = 87
    · rw [if_pos q]; exact t16 q
    · rw [if_neg q]
  have hcmd := md_cmd (N := N) (la := la) (g := m.g_desk_state) (gp := m.g_desk_page) (go := m.g_desk_other) (by omega) t8 t9 f2 g2 bf.2 bg t7 htx
  rw [← homx] at hcmd
  have fx : fd_mDesk_family omx = nI f := by rw [homx]; exact f2
  have gx : fd_mDesk_group omx = nI gr := by rw [homx]; exact g2
  have sx : fd_mDesk_signed omx = nI (decide (sg ≠ 0)).toNat := by rw [homx]; exact t9.2.1
  have hMx : dkM k r cp p omx m.g_desk_state := by rw [homx]; exact hM1
  have hx0 : fd_mDesk_others omx = 0 := by rw [homx]; exact t5.1
  have hxs : fd_mDesk_stored omx = 0 := by rw [homx]; exact t5.2
  have hxd : fd_mDesk_dataLeft omx = nI 0 := by rw [homx, hdl]
  have hl : ¬ (f = 38 ∧ gr = 108 ∧ (e = 65 ∨ e = 79 ∨ e = 88)) := by
    rintro ⟨q1, q2, q3⟩
    subst q1; subst q2
    rcases q3 with rfl | rfl | rfl <;> exact absurd hkn (by decide)
  obtain ⟨g', k1, k2⟩ := md_knownP (N := N) (gp := m.g_desk_page) (n := nOf sg wh) (v := vOf sg wh bh pl) (sg := decide (sg ≠ 0)) pk pok hMx fx gx bf.2 bg t7 sx hvb vOf_pos hnof hl
  rw [cmd_no hkn] at k2
  rw [hkn] at k1
  have hbo : dk_bool (fd_mDesk_signed omx) := by
    rw [sx]
    cases decide (sg ≠ 0)
    · exact Or.inl rfl
    · exact Or.inr rfl
  obtain ⟨go', w1, w2, w3, w4, w5, w6, w7, w8⟩ := md_hand (N := N) (e := e) (v := iI (vOf sg wh bh pl)) (go := m.g_desk_other) hx0 hbo
  obtain ⟨om', hom'⟩ : ∃ om', om' = fs_mDesk_phase (mBeg (fs_mDesk_others (fs_mDesk_dataTo omx 2) 1)) (phD 0 la) := ⟨_, rfl⟩
  have hfin : ex_mDesk_command N om1 m.g_desk_state m.g_desk_page m.g_desk_other (nI e) (nI la.toNat) = some (om', g', m.g_desk_page, go') := by
    rw [hcmd]
    refine (bind_eq k1).trans ?_
    rw [if_pos (show nI (false).toNat = 0 from rfl)]
    refine (bind_eq w1).trans ?_
    rw [hom']
    exact md_115 (o := fs_mDesk_others (fs_mDesk_dataTo omx 2) 1) hxd (by omega)
  have q1 : dkQ om1 om' := by rw [hom', homx]; exact ⟨rfl, rfl, rfl, rfl, rfl, rfl, rfl, rfl, rfl⟩
  have q2 : fd_mDesk_came om' = 0 := by rw [hom', homx]; exact t4
  have q3 : fd_mDesk_others om' = 1 := by rw [hom']; rfl
  have q4 : fd_mDesk_stored om' = nI 0 := by rw [hom']; exact hxs
  have q5 : fd_mDesk_phase om' = (if la then 0 else 3) := by rw [hom']; exact ph0 la
  have q6 : psG f gr o' om' := by rw [hom']; exact ⟨bf, bg, f1, fx, g1, gx⟩
  have q7 : fldM 0 0 0 0 0 om' := by rw [hom']; exact ⟨rfl, rfl, rfl, rfl, rfl, rfl⟩
  have q8 : dkM k r cp p om' g' := by rw [hom']; exact k2
  exact st_H (la := la) (mm := 0) hN hT hC hSd hL hpre t1 (t2.trans (bind_eq hfin)) (dkQ_trans t3 q1) q8 q2 q3 q4 (by omega) q5 q6 q7 t10 t11 t18 t7 t12 t13 t14 hvb t15 ⟨by omega, fun i hi => absurd hi (by omega)⟩ (w2.trans fx) (w3.trans gx) w4 w5 w7 (w8.trans hxd) hkn
/-- the last byte of a command's bytes -/
theorem st_D {N d k r cp T lv a z b i : Nat} {p : Nat → Nat} {s : CS} {m : RS} {lm : Nat → Int32} {own gl : Int32} (hN : 2 ^ 22 < N) (hT : T ≤ 134000000) (hC : cCo N d k r cp T p s m) (hSd : cSd s m) (hL : lvB lv a z b s) (hpre : mByte N m (nI b) = (mIsSeq N (mAdvd m lm i own)).bind (fun was => (mDesk N (mAdvd m lm i own) (nI b)).bind (fun s2 => mPost N (mAdvd m lm i own) s2 gl was)))
    (ho : oD N b s.o_interpreter_parser s.g_interpreter_parser_data (fs_mDesk_thrown m.o_desk 0) m.g_desk_state m.g_desk_page (upd m.g_desk_steps i own) m.g_desk_glyph m.g_desk_other m.g_desk_store) : bR N d T lv a b s m := by
  obtain ⟨o', gd', om', go', gs', f, gr, mm, v, sg, la, t1, t2, t3, t4, t5, t6, t7, t8, t9, t10, t11, t12, t13, t14, t15, t16, t17, y0, y1, y2, y3, y5, y6, t18⟩ := ho
  have q : dkQ m.o_desk om' := dkQ_trans (show dkQ m.o_desk (fs_mDesk_thrown m.o_desk 0) from dkQ_refl _) t3
  exact st_H (la := la) (e := 87) hN hT hC hSd hL hpre t1 t2 q (dkM_Q hC.1.2.2.2.2.2.2.2.1 q) t4 t5 t6 t17.1 t11 t7 t8 t9 t10 t18 (by omega) t12 t13 t14 ⟨t15.1, t15.2.1⟩ t16 t17 y0 y1 y2 y3 y5 y6 (kn_87 f gr)
/-- a command's end, whole -/
theorem st_M {N d k r cp T lv a z b i : Nat} {p : Nat → Nat} {s : CS} {m : RS} {lm : Nat → Int32} {own gl : Int32} (hN : 2 ^ 22 < N) (hT : T ≤ 134000000) (hC : cCo N d k r cp T p s m) (hSd : cSd s m) (hL : lvB lv a z b s) (hpre : mByte N m (nI b) = (mIsSeq N (mAdvd m lm i own)).bind (fun was => (mDesk N (mAdvd m lm i own) (nI b)).bind (fun s2 => mPost N (mAdvd m lm i own) s2 gl was)))
    (ho : oM N b s.o_interpreter_parser s.g_interpreter_parser_data (fs_mDesk_thrown m.o_desk 0) m.g_desk_state m.g_desk_page (upd m.g_desk_steps i own) m.g_desk_glyph m.g_desk_other m.g_desk_store) : bR N d T lv a b s m := by
  obtain ⟨o', om1, f, gr, e, ph, sg, wh, bh, pl, la, t1, t2, t3, t4, t5, t6, t7, t8, t9, t10, t11, t12, t13, t14, t15, t16, t17, t18⟩ := ho
  have t3' : dkQ m.o_desk om1 := dkQ_trans (show dkQ m.o_desk (fs_mDesk_thrown m.o_desk 0) from dkQ_refl _) t3
  by_cases htx : f = 38 ∧ gr = 112 ∧ e = 88
  · exact st_M1 hN hC hSd hL hpre t1 t2 t3' t4 t5 t6 t7 t8 t9 t10 t11 t12 t13 t14 t16 t17 t18 (Or.inl htx)
  cases hkn : knB f gr e with
  | false => exact st_M3 hN hT hC hSd hL hpre t1 t2 t3' t4 t5 t6 t7 t8 t9 t10 t11 t12 t13 t14 t15 t16 t18 hkn htx
  | true =>
    by_cases q : f = 38 ∧ gr = 108 ∧ (e = 65 ∨ e = 79)
    · obtain ⟨q1, q2, q3⟩ := q
      subst q1; subst q2
      exact st_M2 hN (by omega) hC hSd hL hpre t1 t2 t3' t4 t5 t6 t8 t9 t10 t11 t12 t13 t18 q3
    · exact st_M1 hN hC hSd hL hpre t1 t2 t3' t4 t5 t6 t7 t8 t9 t10 t11 t12 t13 t14 t16 t17 t18 (Or.inr ⟨hkn, q⟩)
/-- a glyph of the shelf is laid and painted -/
theorem ch_lay {N k r d sd nd X Y c e F n u : Nat} {o : ob_Sheet} {os : ob_mSheet} {op : ob_Page} {od : ob_mDesk} {of_ : ob_FontShelf} {osf : ob_mShelf} {or : ob_Ref} {gmk gd ic pc ac gg gdt im pm am gm gs : Nat → Int32} {b : Nat → Int64} (hN : 2 ^ 22 < N) (hk : k < 5) (hr : r < 4) (hd : isDpi d) (h : shR k r d o os gmk gd b sd nd) (p1 : fd_Page_size op = nI k) (p2 : fd_Page_orientation op = nI r) (p3 : fd_Page_dpi op = nI d) (p4 : fd_Page_x op = nI X) (p5 : fd_Page_y op = nI Y) (q1 : fd_mDesk_orientation od = nI r) (q2 : fd_Ref_dpi or = nI d) (q3 : fd_mDesk_cameX od = nI X) (q4 : fd_mDesk_cameY od = nI Y) (hX : X ≤ 122400) (hY : Y ≤ 122400) (hK : slK F n u ic pc ac gg gdt im pm am gm gs) (hc : c < n) (he : e < n) (hrec : recC gg gdt c = recM gm gs e) :
    ∃ o' gmk' gd' os' b', ex_Sheet_layGlyph N o of_ gg op gmk gdt gd (nI c) = some (o', gmk', gd') ∧ ex_Ref_paintGlyph N or osf gm os od gs nd b (nI e) = some (os', b') ∧ shR k r d o' os' gmk' gd' b' sd nd ∧ fd_Sheet_due o' = fd_Sheet_due o ∧ shF o o' := by
  obtain ⟨k1, k2, k3, k4, k5, k6, k7, ⟨⟨k8, k9, k10, k11⟩, k12⟩, hM, k13⟩ := hK
  obtain ⟨lf, tp, W, Dp, st, g1, g2, _⟩ := k11.1 c hc
  obtain ⟨a, hg⟩ : ∃ a, gyC gg c lf tp W Dp st a := ⟨_, g1⟩
  have hg' := hg
  obtain ⟨y1, y2, y3, y4, y5, y6, y7, y8⟩ := hg'
  have r2 : gg (9 * c + 2) = gm (7 * e + 2) := congrArg (fun t : gRec => t.2.2.1) hrec
  have r3 : gg (9 * c + 3) = gm (7 * e + 3) := congrArg (fun t : gRec => t.2.2.2.1) hrec
  have r4 : gg (9 * c + 4) = gm (7 * e + 4) := congrArg (fun t : gRec => t.2.2.2.2.1) hrec
  have r5 : gg (9 * c + 5) = gm (7 * e + 5) := congrArg (fun t : gRec => t.2.2.2.2.2.1) hrec
  have r6 : gg (9 * c + 6) = gm (7 * e + 6) := congrArg (fun t : gRec => t.2.2.2.2.2.2.1) hrec
  have r7 := congrArg (fun t : gRec => t.2.2.2.2.2.2.2) hrec
  have hmy : gyM gm e lf tp W Dp st := ⟨by rw [← r2, y1], by rw [← r3, y2], by rw [← r4, y3], by rw [← r5, y4], by rw [← r6, y5]⟩
  have hW : W ≤ 128 := g2.2.2.2.2.1
  have hD : Dp ≤ 128 := g2.2.2.2.2.2.1
  have cW : (nI W).toNatClampNeg = W := nI_clamp (by omega)
  have cD : (nI Dp).toNatClampNeg = Dp := nI_clamp (by omega)
  have cA : (nI a).toNatClampNeg = a := nI_clamp (by have := y8; omega)
  refine ly_glyph hN hk hr hd h p1 p2 p3 p4 p5 q1 q2 q3 q4 hX hY (by omega) (by omega) hg hmy g2 k10 ?_
  intro p q hp hq
  have m4 : gm (7 * e + 4) = nI W := by rw [← r4, y3]
  have m5 : gm (7 * e + 5) = nI Dp := by rw [← r5, y4]
  rw [gm_black (by omega) hM he (by rw [m4, cW]; exact hp) (by rw [m5, cD]; exact hq)]
  have r8 := congrFun (congrFun r7 p) q
  have r9 : (decide (p < (gg (9 * c + 4)).toNatClampNeg ∧ q < (gg (9 * c + 5)).toNatClampNeg) && bitM gdt (gg (9 * c + 4)).toNatClampNeg (gg (9 * c + 7)).toNatClampNeg p q) = (decide (p < (gm (7 * e + 4)).toNatClampNeg ∧ q < (gm (7 * e + 5)).toNatClampNeg) && bitM gs (gm (7 * e + 4)).toNatClampNeg (stM gm e) p q) := r8
  rw [y3, y4, y6, m4, m5, cW, cD, cA, decide_eq_true ⟨hp, hq⟩, Bool.true_and, Bool.true_and] at r9
  rw [m4, cW, r9]
theorem settle_id {N : Nat} {s : CS} (h : fd_FontShelf_chosenKnown s.o_fonts = 1) : kSettle N s = some s := by
  unfold kSettle
  refine Option.map_eq_some_iff.mpr ⟨(s.o_fonts, s.g_fonts_chosen, s.g_fonts_left), ?_, rfl⟩
  unfold ex_FontShelf_settle
  rw [if_neg (show ¬ fd_FontShelf_chosenKnown s.o_fonts = 0 by rw [h]; decide)]
theorem me_t {N : Nat} {m m3 : RS} {gl : Int32} {w : Bool} (hT : mTail N m gl = some m3) : mEnd N m gl (nI w.toNat) = some (m3, w && decide (fd_mDesk_phase m3.o_desk ≤ 1)) := by
  unfold mEnd
  refine (bind_eq hT).trans ?_
  cases w with
  | false => rw [if_pos (show nI (false).toNat = 0 from rfl)]; rfl
  | true =>
    rw [if_neg (show ¬ nI (true).toNat = 0 by decide)]
    refine (bind_eq is_seq).trans ?_
    show some (m3, decide (nI (decide (¬ fd_mDesk_phase m3.o_desk ≤ 1)).toNat = 0)) = _
    by_cases q : fd_mDesk_phase m3.o_desk ≤ 1
    · have e1 : decide (¬ fd_mDesk_phase m3.o_desk ≤ 1) = false := decide_eq_false (fun z => z q)
      rw [e1, decide_eq_true q]; rfl
    · have e1 : decide (¬ fd_mDesk_phase m3.o_desk ≤ 1) = true := decide_eq_true q
      rw [e1, decide_eq_false q]; rfl
theorem step_f {N : Nat} {s s1 s2 s' : CS} {ev : Int32} (h1 : kNext N s = some (s1, ev)) (h2 : kAct N s1 ev = some s2) (h3 : kSettle N s2 = some s2) (hf : fd_Main_fault s.o_this = 0) (hj : fd_Interpreter_ejecting s2.o_interpreter = 0) (h5 : kFinish N s2 0 = some s') : kStep N s = some s' := by
  unfold kStep
  refine (bind_eq h1).trans ((bind_eq h2).trans ((bind_eq h3).trans ?_))
  rw [if_pos hj, if_pos hf]; exact h5
/-- a byte that ejects nothing, whatever it lays -/
theorem st_G {N d k r cp T lv a z b i : Nat} {p p1 p' : Nat → Nat} {s : CS} {m m2 : RS} {lm : Nat → Int32} {own gl ev : Int32} {o' : ob_Parser} {gd' : Nat → Int32} {om' : ob_mDesk} {g' gp' gg' go' gs' : Nat → Int32} {oi2 oi3 : ob_Interpreter} {s2 : CS} {e : Bool} {oS' : ob_Sheet} {mk' dt' : Nat → Int32} {os' : ob_mSheet} {b' : Nat → Int64} (hN : 2 ^ 22 < N) (hC : cCo N d k r cp T p s m) (hSd : cSd s m) (hL : lvB lv a z b s) (hpre : mByte N m (nI b) = (mIsSeq N (mAdvd m lm i own)).bind (fun was => (mDesk N (mAdvd m lm i own) (nI b)).bind (fun s2 => mPost N (mAdvd m lm i own) s2 gl was)))
    (ht : ex_Parser_take N s.o_interpreter_parser s.g_interpreter_parser_data (nI b) = some (o', gd', ev)) (he16 : ev &&& 16 = 0)
    (ha : kAct N (kPut s (upd s.g_interpreter_at lv (nI (a + 1))) o' gd') ev = some s2) (hs2 : s2 = if e then kTk (kPg (kPut s (upd s.g_interpreter_at lv (nI (a + 1))) o' gd') oi2 (pgC d k r cp p1)) lv else kPg (kPut s (upd s.g_interpreter_at lv (nI (a + 1))) o' gd') oi2 (pgC d k r cp p1))
    (hj : fd_Interpreter_ejecting oi2 = 0) (hfi : kFinish N s2 0 = some (kFin s2 oi3 (pgC d k r cp p') oS' mk' dt')) (h31 : fd_Interpreter_ejecting oi3 = 0) (h32 : fd_Interpreter_then oi3 = 0) (h33 : fd_Interpreter_level oi3 = fd_Interpreter_level s.o_interpreter)
    (hok : pOK k r p') (hst : stk p' s.g_page_stack)
    (hdk : ex_mDesk_comes N (fs_mDesk_thrown m.o_desk 0) m.g_desk_state m.g_desk_page (upd m.g_desk_steps i own) m.g_desk_glyph m.g_desk_other m.g_desk_store (nI b) = some (om', g', gp', gg', go', gs')) (hm2 : m2 = mDk (mAdvd m lm i own) (om', g', gp', gg', go', gs')) (hpgs : fd_mDesk_pages om' = fd_mDesk_pages m.o_desk) (hM : dkM k r cp p' om' g') (hps : psR o' gd' om' go' gs') (hen : enB (fs_mDesk_thrown m.o_desk 0) om' = e)
    (hTl : mTail N m2 gl = some (mShd m2 os' b')) (hI : dkI (T + 4) om') (hdu : fd_Sheet_due oS' = nI (dueB om').toNat) (hsh : ∃ sd, shR k r d oS' os' mk' dt' b' sd m.n_sheet_dots ∧ ∀ j, j < 5 → wdN j d ≤ 64 * sd ∧ sd * hgN j d ≤ m.n_sheet_dots) (hmk : dueB om' = false → fd_mSheet_marks os' = 0) (hF : shF s.o_sheet oS') :
    ∃ s' m' e', kRun N 1 s s' ∧ mByte N m (nI b) = some (m', e') ∧ bRes N d (T + 4) lv a s m s' m' e' := by
  obtain ⟨hPg, hSh, hFo, hKn, hRa, hMa, hFl, hFa, hIt⟩ := hC
  obtain ⟨pd, pk, pr, pcp, pp, pok, pst, pdk, pd1, pd2⟩ := hPg
  have hL0 := hL
  obtain ⟨l1, l2, l3, l4, l5, l6, l7, l8, l9⟩ := hL
  have kn := kn_byte (N := N) l1 l2 l3 l4 l5 l6 l7 l8 l9 ht
  rw [if_pos he16] at kn
  obtain ⟨s', hs'⟩ : ∃ s', s' = kFin s2 oi3 (pgC d k r cp p') oS' mk' dt' := ⟨_, rfl⟩
  obtain ⟨m3, hm3⟩ : ∃ m3, m3 = mShd m2 os' b' := ⟨_, rfl⟩
  rw [← hs'] at hfi
  rw [← hm3] at hTl
  have hst' : kStep N s = some s' := step_f kn ha (settle_id (by rw [hs2]; cases e <;> exact hKn)) hFa.1 (by rw [hs2]; cases e <;> exact hj) hfi
  have hrun := kRun.one hFa.1 (more_ok hL0) hst'
  have hdk' : mDesk N (mAdvd m lm i own) (nI b) = some m2 := by
    rw [hm2]; unfold mDesk
    exact Option.map_eq_some_iff.mpr ⟨_, hdk, rfl⟩
  have hEn : mEnd N m2 gl (nI (decide (¬ fd_mDesk_phase (mAdvd m lm i own).o_desk ≤ 1)).toNat) = some (m3, e) := by
    rw [me_t hTl, ← hen, hm3, hm2]; rfl
  have hby : mByte N m (nI b) = some (m3, e) := by
    rw [hpre]
    refine (bind_eq is_seq).trans ?_
    refine (bind_eq hdk').trans ?_
    unfold mPost
    rw [if_pos (show fd_mDesk_pages m2.o_desk ≤ fd_mDesk_pages (mAdvd m lm i own).o_desk by rw [hm2]; exact Int32.le_of_eq hpgs)]
    exact hEn
  refine ⟨s', m3, e, hrun, hby, ⟨k, r, cp, p', ?_⟩, ?_, ?_, ?_, ?_, ?_⟩
  · obtain ⟨a1, a2, a3, a4, ⟨⟨BL, b1, b2⟩, b5⟩, ⟨x, y, w, ru⟩⟩ := hSh
    have hMm : cMa (T + 4) s' m3 := by
      obtain ⟨c1, c2, c3, c4⟩ := hMa
      rw [hs', hm3, hs2, hm2]; cases e <;> exact ⟨mcS_mono (by omega) c1, c2, c3, c4⟩
    have hRm := rsR_mono (T' := T + 4) (by omega) hRa
    have hsh' : cSh (T + 4) d k r s' m3 := by
      rw [hs', hm3, hs2, hm2]
      have bb : fd_Sheet_bandLines oS' = nI BL := hF.1.trans b1
      have rr : ruR oS' m.o_this x y w := ⟨hF.2.1.trans ru.1, ru.2.1, hF.2.2.1.trans ru.2.2.1, ru.2.2.2.1, hF.2.2.2.trans ru.2.2.2.2.1, ru.2.2.2.2.2⟩
      cases e <;> exact ⟨hI, hdu, hsh, hmk, ⟨⟨BL, bb, b2⟩, b5⟩, ⟨x, y, w, rr⟩⟩
    refine ⟨⟨pd, pk, pr, pcp, by rw [hs']; rfl, hok, ?_, ?_, ?_, ?_⟩, hsh', ?_, ?_, ?_, hMm, ?_, ?_, ?_⟩
    · rw [hs', hs2]; cases e <;> exact hst
    · rw [hm3, hm2]; exact hM
    · rw [hs', hs2]; cases e <;> exact pd1
    · rw [hm3, hm2]; exact pd2
    · rw [hs', hm3, hs2, hm2]; cases e <;> exact hFo
    · rw [hs', hs2]; cases e <;> exact hKn
    · rw [hs', hm3, hs2, hm2]; cases e <;> exact hRm
    · rw [hs', hm3, hs2, hm2]; cases e <;> exact hFl
    · rw [hs', hm3, hs2, hm2]; cases e <;> exact hFa
    · rw [hs']; exact ⟨h31, h32⟩
  · rw [hs', hm3, hs2, hm2]; cases e <;> exact hps
  · rw [hs', hs2]; cases e <;> exact ⟨rfl, rfl, rfl, rfl, rfl, h33⟩
  · rw [hs', hs2]; cases e <;> exact kfG_refl s
  · rw [hs', hm3, hs2, hm2]
    cases e with
    | false => exact ⟨fun _ => ⟨⟨rfl, rfl, rfl, rfl⟩, hSd⟩, fun h => absurd h (by decide)⟩
    | true => exact ⟨fun h => absurd h (by decide), fun _ => tk_acts (lv := lv) (s := s) (m := m) l2 hSd⟩
  · rw [hm3, hm2]; exact rfM_refl m
/-- which glyph a byte has, on both sides -/
def glS (N n w b : Nat) (gl : Int32) (oF : ob_FontShelf) (ids ch gg gdt gm gs : Nat → Int32) : Prop := (gl = -1 ∧ ex_FontShelf_glyphFor N oF ids ch gg (nI w) (nI b) = some (-1)) ∨ (∃ c e : Nat, c < n ∧ e < n ∧ recC gg gdt c = recM gm gs e ∧ gl = nI e ∧ ex_FontShelf_glyphFor N oF ids ch gg (nI w) (nI b) = some (nI c))
theorem gl_own {N n w b P6 : Nat} {gl own : Int32} {s : CS} {m : RS} (h6 : P6 ≤ 1966080) (h : glR N n w b gl own s m) : ∃ st, st ≤ 2000000 ∧ ex_FontShelf_stepOf N s.o_fonts s.g_fonts_ids s.g_fonts_chosen s.g_fonts_attributes s.g_fonts_glyphs (nI w) (nI b) (nI P6) = some (nI st) ∧ ((own = nI st ∧ st ≤ 20000) ∨ (own = -1 ∧ st = P6)) ∧ glS N n w b gl s.o_fonts s.g_fonts_ids s.g_fonts_chosen s.g_fonts_glyphs s.g_fonts_dots m.g_shelf_glyph m.g_shelf_store := by
  rcases h with ⟨h1, h2, h3, h4⟩ | ⟨c, e, h1, h2, h3, h4, h5, h7⟩
  · exact ⟨P6, by omega, h4 _, Or.inr ⟨h2, rfl⟩, Or.inl ⟨h1, h3⟩⟩
  · rcases h7 with ⟨g1, g2⟩ | ⟨t, g1, g2, g3⟩
    · exact ⟨P6, by omega, g2 _, Or.inr ⟨g1, rfl⟩, Or.inr ⟨c, e, h1, h2, h3, h4, h5⟩⟩
    · exact ⟨t, by omega, g3 _, Or.inl ⟨g2, g1⟩, Or.inr ⟨c, e, h1, h2, h3, h4, h5⟩⟩
theorem set_x {N d k r cp st : Nat} {q : Nat → Nat} (hk : k < 5) (hr : r < 4) (hq : q 0 ≤ 122400) (hst : st ≤ 2000000) : ex_Page_setX N (pgC d k r cp q) (((fd_Page_x (pgC d k r cp q)) + nI st).toInt64) = some (pgC d k r cp (nset q 0 (min (q 0 + st) (pgW k r)))) := by
  have e : fd_Page_x (pgC d k r cp q) + nI st = nI (q 0 + st) := nI_add _ _
  rw [e, nI_lI (by omega), pg_X ((q 0 + st : Nat) : Int) hk hr (by omega)]
  have : clampN ((q 0 + st : Nat) : Int) (pgW k r) = min (q 0 + st) (pgW k r) := by
    unfold clampN
    rw [if_neg (by omega)]
    by_cases z : pgW k r < q 0 + st
    · rw [if_pos (by omega)]; omega
    · rw [if_neg (by omega)]; omega
  rw [this]
theorem pl_32 {N d k r cp st : Nat} {q : Nat → Nat} {oi : ob_Interpreter} {oS : ob_Sheet} {oF : ob_FontShelf} {ids gg ch mk dt gdt : Nat → Int32} (hk : k < 5) (hr : r < 4) (hq : q 0 ≤ 122400) (hst : st ≤ 2000000) : ex_Interpreter_placeCharacter N oi (pgC d k r cp q) oS oF ids gg ch mk dt gdt (nI 32) (nI st) = some (pgC d k r cp (nset q 0 (min (q 0 + st) (pgW k r))), oS, mk, dt) := by
  unfold ex_Interpreter_placeCharacter
  rw [if_pos (show nI 32 = 32 from rfl)]
  exact (bind_eq (set_x hk hr hq hst)).trans rfl
theorem pl_ch {N d k r cp st b n F u nd : Nat} {q : Nat → Nat} {gl : Int32} {oi : ob_Interpreter} {oS : ob_Sheet} {oF : ob_FontShelf} {ic pc ac gg ch mk dt gdt im pm am gm gs : Nat → Int32} {or : ob_Ref} {osf : ob_mShelf} {os : ob_mSheet} {od : ob_mDesk} {bb : Nat → Int64} (hN : 2 ^ 22 < N) (hk : k < 5) (hr : r < 4) (hd : isDpi d) (hq : q 0 ≤ 122400) (hq1 : q 1 ≤ 122400) (hst : st ≤ 2000000) (hb : b < 256) (h32 : b ≠ 32) (hK : slK F n u ic pc ac gg gdt im pm am gm gs) (hg : glS N n (q 11) b gl oF ic ch gg gdt gm gs) (hsh : ∃ sd, shR k r d oS os mk dt bb sd nd ∧ ∀ j, j < 5 → wdN j d ≤ 64 * sd ∧ sd * hgN j d ≤ nd) (q1 : fd_mDesk_orientation od = nI r) (q2 : fd_Ref_dpi or = nI d) (q3 : fd_mDesk_cameX od = nI (q 0)) (q4 : fd_mDesk_cameY od = nI (q 1)) :
    ∃ oS' mk' dt' os' b', ex_Interpreter_placeCharacter N oi (pgC d k r cp q) oS oF ic gg ch mk dt gdt (nI b) (nI st) = some (pgC d k r cp (nset q 0 (min (q 0 + st) (pgW k r))), oS', mk', dt') ∧ ex_Ref_paintGlyph N or osf gm os od gs nd bb gl = some (os', b') ∧ (∃ sd, shR k r d oS' os' mk' dt' b' sd nd ∧ ∀ j, j < 5 → wdN j d ≤ 64 * sd ∧ sd * hgN j d ≤ nd) ∧ fd_Sheet_due oS' = 1 ∧ shF oS oS' := by
  obtain ⟨sd, s1, s2⟩ := hsh
  have s1' : shR k r d (fs_Sheet_due oS 1) os mk dt bb sd nd := s1
  have n32 : ¬ nI b = 32 := mt (nI_eq (b := 32) (by omega) (by omega)).mp h32
  have hx := set_x (N := N) (d := d) (cp := cp) (q := q) hk hr hq hst
  rcases hg with ⟨g1, g2⟩ | ⟨c, e, g1, g2, g3, g4, g5⟩
  · refine ⟨fs_Sheet_due oS 1, mk, dt, os, bb, ?_, ?_, ⟨sd, s1', s2⟩, rfl, ⟨rfl, rfl, rfl, rfl⟩⟩
    · unfold ex_Interpreter_placeCharacter
      rw [if_neg n32]
      refine (bind_eq g2).trans ?_
      rw [if_pos (show (-1 : Int32) < 0 by decide)]
      exact (bind_eq hx).trans rfl
    · unfold ex_Ref_paintGlyph
      rw [g1, if_neg (show ¬ (0 : Int32) ≤ -1 by decide)]
  · have hn : n ≤ 256 := hK.2.2.2.2.2.2.2.1.1.1
    obtain ⟨o', gmk', gd', os', b', l1, l2, l3, l4, l5⟩ := ch_lay (N := N) (op := pgC d k r cp q) (of_ := oF) (osf := osf) (or := or) (od := od) hN hk hr hd s1' rfl rfl rfl rfl rfl q1 q2 q3 q4 hq hq1 hK g1 g2 g3
    refine ⟨o', gmk', gd', os', b', ?_, ?_, ⟨sd, l3, s2⟩, l4, l5⟩
    · unfold ex_Interpreter_placeCharacter
      rw [if_neg n32]
      refine (bind_eq g5).trans ?_
      rw [if_neg (show ¬ nI c < 0 from nI_nlt (b := 0) (by omega) (by omega))]
      exact (bind_eq l1).trans ((bind_eq hx).trans rfl)
    · rw [g4]; exact l2
theorem tl_paint {N : Nat} {m m1 : RS} {gl : Int32} {os' : ob_mSheet} {b' : Nat → Int64} (hN : 0 < N) (h1 : mMeasure N m = some m1) (hc : ¬ fd_mDesk_came m1.o_desk = 0) (hp : ex_Ref_paintGlyph N m1.o_this m1.o_shelf m1.g_shelf_glyph m1.o_sheet m1.o_desk m1.g_shelf_store m1.n_sheet_dots m1.g_sheet_dots gl = some (os', b')) (ho : fd_mDesk_others m1.o_desk = 0) : mTail N m gl = some (mShd m1 os' b') := by
  unfold mTail
  refine (bind_eq h1).trans ?_
  rw [if_neg hc]
  have hpa : mPaint N m1 gl = some (mShd m1 os' b') := by
    unfold mPaint
    exact Option.map_eq_some_iff.mpr ⟨(os', b'), hp, rfl⟩
  refine (bind_eq hpa).trans ?_
  obtain ⟨z, rfl⟩ : ∃ z, N = z + 1 := ⟨N - 1, by omega⟩
  rw [mOthers, if_pos (show fd_mDesk_others (mShd m1 os' b').o_desk ≤ 0 from Int32.le_of_eq ho)]
theorem tl_none {N : Nat} {m m1 : RS} {gl : Int32} (hN : 0 < N) (h1 : mMeasure N m = some m1) (hc : fd_mDesk_came m1.o_desk = 0) (ho : fd_mDesk_others m1.o_desk = 0) : mTail N m gl = some m1 := by
  unfold mTail
  refine (bind_eq h1).trans ?_
  rw [if_pos hc]
  obtain ⟨z, rfl⟩ : ∃ z, N = z + 1 := ⟨N - 1, by omega⟩
  rw [mOthers, if_pos (Int32.le_of_eq ho)]
theorem chQ_at {k r st : Nat} {p : Nat → Nat} (i : Nat) (hi : 2 ≤ i) : chQ k r p st i = p i := by
  unfold chQ crN homN
  split
  · rfl
  · split
    · simp only [nset]; rw [if_neg (by omega), if_neg (by omega)]
    · simp only [nset]; rw [if_neg (by omega), if_neg (by omega)]
theorem chW_eq {k r st : Nat} {p : Nat → Nat} (hl : chL p st = false) (he : chE k r p st = false) : chW k r p st = chQ k r p st := by
  unfold chL at hl
  unfold chE at he
  unfold chW chQ
  cases hf : chF p st with
  | true => rfl
  | false =>
    rw [hf] at hl he
    have h8 : ¬ p 8 = 0 := by simpa using hl
    rw [decide_eq_true h8] at he
    have : lfE k r (crN k r p) (p 7) = false := by simpa using he
    rw [this]; rfl
theorem chW_hom {k r st : Nat} {p : Nat → Nat} (he : chE k r p st = true) : chQ k r p st = homN k r (chW k r p st) ∧ chW k r p st = crN k r p ∧ chL p st = false := by
  unfold chE at he
  simp only [Bool.and_eq_true, Bool.not_eq_true', decide_eq_true_eq] at he
  obtain ⟨⟨h1, h2⟩, h3⟩ := he
  unfold chQ chW chL
  rw [h1, h3, decide_eq_false h2]
  exact ⟨rfl, rfl, rfl⟩
theorem dkI_G {T : Nat} {u v : ob_mDesk} (h : dkI T u) (g : dkG u v) : dkI T v := by
  obtain ⟨A, G, P, h1, h2, h3, h4, h5, h6, h7⟩ := h
  obtain ⟨g1, g2, g3, g4, g5, g6, g7, g8, g9, g10⟩ := g
  exact ⟨A, G, P, g8.trans h1, g7.trans h2, g10.trans h3, h4, h5, h6, by rw [g9]; exact h7⟩
theorem dueB_G {u v : ob_mDesk} (g : dkG u v) : dueB v = dueB u := by
  obtain ⟨g1, g2, g3, g4, g5, g6, g7, g8, g9, g10⟩ := g
  unfold dueB; rw [g8, g9]
theorem dkM_G {k r cp : Nat} {p : Nat → Nat} {o o' : ob_mDesk} {g : Nat → Int32} (h : dkM k r cp p o g) (q : dkG o o') : dkM k r cp p o' g := dkM_ob h q.1 q.2.1 q.2.2.1 q.2.2.2.1 q.2.2.2.2.1
/-- the class's step into a character -/
theorem ka_ch {N d k r cp lv b st : Nat} {p : Nat → Nat} {s1 : CS} (e : Bool) (hk : k < 5) (hr : r < 4) (hp : pOK k r p) (hpg : s1.o_page = pgC d k r cp p) (htk : fd_Parser_taken s1.o_interpreter_parser = nI b) (hj : fd_Interpreter_ejecting s1.o_interpreter = 0) (hst : st ≤ 2000000) (hs : ex_FontShelf_stepOf N s1.o_fonts s1.g_fonts_ids s1.g_fonts_chosen s1.g_fonts_attributes s1.g_fonts_glyphs (nI (p 11)) (nI b) (nI (p 6)) = some (nI st)) (hl : fd_Interpreter_level s1.o_interpreter = nI lv) (hlv : lv ≤ 2) :
    ∃ oi2 p1, kAct N s1 (if e then 9 else 1) = some (if e then kTk (kPg s1 oi2 (pgC d k r cp p1)) lv else kPg s1 oi2 (pgC d k r cp p1)) ∧ oi2 = (if chL p st then fs_Interpreter_thenStep s1.o_interpreter (nI st) else fs_Interpreter_thenNumber (fs_Interpreter_then (fs_Interpreter_ejecting (fs_Interpreter_thenStep s1.o_interpreter (nI st)) (nI (chE k r p st).toNat)) 1) (nI b)) ∧ p1 = (if chL p st then p else chW k r p st) := by
  have hc := ic_char (N := N) (d := d) (cp := cp) (oi := s1.o_interpreter) (oF := s1.o_fonts) (ids := s1.g_fonts_ids) (at_ := s1.g_fonts_attributes) (gl := s1.g_fonts_glyphs) (ch := s1.g_fonts_chosen) hk hr hp hj hst hs
  obtain ⟨oi2, ho⟩ : ∃ oi2, oi2 = (if chL p st then fs_Interpreter_thenStep s1.o_interpreter (nI st) else fs_Interpreter_thenNumber (fs_Interpreter_then (fs_Interpreter_ejecting (fs_Interpreter_thenStep s1.o_interpreter (nI st)) (nI (chE k r p st).toNat)) 1) (nI b)) := ⟨_, rfl⟩
  obtain ⟨p1, hp1⟩ : ∃ p1, p1 = (if chL p st then p else chW k r p st) := ⟨_, rfl⟩
  have hk1 : kChar N s1 (nI b) = some (kPg s1 oi2 (pgC d k r cp p1)) := by
    unfold kChar
    refine Option.map_eq_some_iff.mpr ⟨(oi2, pgC d k r cp p1), ?_, rfl⟩
    rw [hpg, hc, ho, hp1]
    cases chL p st <;> rfl
  have hlv2 : fd_Interpreter_level (kPg s1 oi2 (pgC d k r cp p1)).o_interpreter = nI lv := by
    show fd_Interpreter_level oi2 = nI lv
    rw [ho, ← hl]
    cases chL p st <;> rfl
  refine ⟨oi2, p1, ?_, ho, hp1⟩
  refine ka_do e ?_ ?_ hlv2 hlv
  · cases e <;> decide
  · have hd1 : kDo N s1 1 = some (kPg s1 oi2 (pgC d k r cp p1)) := by
      unfold kDo
      rw [if_pos rfl, htk]; exact hk1
    cases e
    · rw [if_neg (show ¬ ((if false = true then 9 else 1 : Int32) &&& 7 = 4) by decide)]; exact hd1
    · rw [if_neg (show ¬ ((if true = true then 9 else 1 : Int32) &&& 7 = 4) by decide)]; exact hd1
/-- a character that ejects nothing -/
theorem st_C1 {N d k r cp T lv a z b n F u st : Nat} {p : Nat → Nat} {s : CS} {m : RS} {lm : Nat → Int32} {own gl : Int32} (hN : 2 ^ 22 < N) (hT : T < 2 ^ 28) (hb : b < 256) (hC : cCo N d k r cp T p s m) (hSd : cSd s m) (hL : lvB lv a z b s) (hpre : mByte N m (nI b) = (mIsSeq N (mAdvd m lm (256 * p 11 + b) own)).bind (fun was => (mDesk N (mAdvd m lm (256 * p 11 + b) own) (nI b)).bind (fun s2 => mPost N (mAdvd m lm (256 * p 11 + b) own) s2 gl was)))
    (hK : slK F n u s.g_fonts_ids s.g_fonts_permanent s.g_fonts_attributes s.g_fonts_glyphs s.g_fonts_dots m.g_shelf_ids m.g_shelf_permanent m.g_shelf_attributes m.g_shelf_glyph m.g_shelf_store) (hst : st ≤ 2000000) (hs : ex_FontShelf_stepOf N s.o_fonts s.g_fonts_ids s.g_fonts_chosen s.g_fonts_attributes s.g_fonts_glyphs (nI (p 11)) (nI b) (nI (p 6)) = some (nI st)) (hg : glS N n (p 11) b gl s.o_fonts s.g_fonts_ids s.g_fonts_chosen s.g_fonts_glyphs s.g_fonts_dots m.g_shelf_glyph m.g_shelf_store)
    {o' : ob_Parser} {e : Bool} (t1 : ex_Parser_take N s.o_interpreter_parser s.g_interpreter_parser_data (nI b) = some (o', s.g_interpreter_parser_data, if e then 9 else 1)) (t2 : fd_Parser_taken o' = nI b)
    {om1 om' o9 : ob_mDesk} {g9 gp9 gg9 : Nat → Int32} (hdk : ex_mDesk_comes N (fs_mDesk_thrown m.o_desk 0) m.g_desk_state m.g_desk_page (upd m.g_desk_steps (256 * p 11 + b) own) m.g_desk_glyph m.g_desk_other m.g_desk_store (nI b) = some (om', g9, gp9, gg9, m.g_desk_other, m.g_desk_store)) (t4 : dkQ m.o_desk om1) (t5 : fd_mDesk_came om1 = 0) (hG : dkG o9 om') (hcx : fd_mDesk_cameX om' = fd_mDesk_cameX o9) (hcy : fd_mDesk_cameY om' = fd_mDesk_cameY o9) (hot : fd_mDesk_others om' = 0) (hps : psR o' s.g_interpreter_parser_data om' m.g_desk_other m.g_desk_store) (hen : enB (fs_mDesk_thrown m.o_desk 0) om' = e)
    (hE : chE k r p st = false) (hlo : chL p st = true → o9 = om1 ∧ g9 = m.g_desk_state ∧ gp9 = m.g_desk_page) (hno : chL p st = false → dkM k r cp (nset (chQ k r p st) 0 (min (chQ k r p st 0 + st) (pgW k r))) o9 g9 ∧ dkI (T + 2) o9 ∧ fd_mDesk_pages o9 = (if chE k r p st then fd_mDesk_pages om1 + 1 else fd_mDesk_pages om1) ∧ (b ≠ 32 → fd_mDesk_came o9 = 1 ∧ fd_mDesk_cameX o9 = nI (chQ k r p st 0) ∧ fd_mDesk_cameY o9 = nI (chQ k r p st 1) ∧ dueB o9 = true) ∧ (b = 32 → fd_mDesk_came o9 = fd_mDesk_came om1 ∧ dueB o9 = (if chE k r p st then false else dueB om1))) :
    ∃ s' m' e', kRun N 1 s s' ∧ mByte N m (nI b) = some (m', e') ∧ bRes N d (T + 4) lv a s m s' m' e' := by
  have hC0 := hC
  obtain ⟨hPg, hSh, hFo, hKn, hRa, hMa, hFl, hFa, hIt⟩ := hC
  obtain ⟨pd, pk, pr, pcp, pp, pok, pst, pdk, pd1, pd2⟩ := hPg
  obtain ⟨a1, a2, a3, a4, a5, a6⟩ := hSh
  have hPgs := t4.2.2.2.2.2.2.2.2
  obtain ⟨s1, hs1⟩ : ∃ s1, s1 = kPut s (upd s.g_interpreter_at lv (nI (a + 1))) o' s.g_interpreter_parser_data := ⟨_, rfl⟩
  obtain ⟨oi2, p1, ha, ho2, hp1⟩ := ka_ch (N := N) (d := d) (k := k) (r := r) (cp := cp) (lv := lv) (b := b) (st := st) (p := p) (s1 := s1) e pk pr pok (by rw [hs1]; exact pp) (by rw [hs1]; exact t2) (by rw [hs1]; exact hIt.1) hst (by rw [hs1]; exact hs) (by rw [hs1]; exact hL.1) hL.2.1
  have oi1 : s1.o_interpreter = s.o_interpreter := by rw [hs1]; rfl
  rw [oi1] at ho2
  obtain ⟨s2, hs2⟩ : ∃ s2, s2 = if e then kTk (kPg s1 oi2 (pgC d k r cp p1)) lv else kPg s1 oi2 (pgC d k r cp p1) := ⟨_, rfl⟩
  rw [← hs2] at ha
  rw [hs1] at ha hs2
  obtain ⟨m2, hm2⟩ : ∃ m2, m2 = mDk (mAdvd m lm (256 * p 11 + b) own) (om', g9, gp9, gg9, m.g_desk_other, m.g_desk_store) := ⟨_, rfl⟩
  have he16 : (if e then (9 : Int32) else 1) &&& 16 = 0 := by cases e <;> decide
  have hot2 : fd_mDesk_others m2.o_desk = 0 := by rw [hm2]; exact hot
  cases hl : chL p st with
  | true =>
    rw [hl] at ho2 hp1
    obtain ⟨e1, e2, e3⟩ := hlo hl
    rw [e1] at hG
    have hp1' : p1 = p := hp1
    have ho2' : oi2 = fs_Interpreter_thenStep s.o_interpreter (nI st) := ho2
    have j2 : fd_Interpreter_ejecting oi2 = 0 := by rw [ho2']; exact hIt.1
    have n2 : fd_Interpreter_then oi2 = 0 := by rw [ho2']; exact hIt.2
    have l2 : fd_Interpreter_level oi2 = fd_Interpreter_level s.o_interpreter := by rw [ho2']
    have hM : dkM k r cp p om' g9 := by rw [e2]; exact dkM_G (dkM_Q pdk t4) hG
    have hc0 : fd_mDesk_came om' = 0 := hG.2.2.2.2.2.1.trans t5
    have hI : dkI (T + 4) om' := (dkI_G (dkI_Q t4 a1) hG).mono (by omega)
    have hdB : dueB om' = dueB m.o_desk := (dueB_G hG).trans (dueB_Q t4)
    have hme : mMeasure N m2 = some m2 := by
      obtain ⟨sd, q1, q2⟩ := a3
      refine mm_same pd pk (sd := sd) (nd := m.n_sheet_dots) ?_ (by rw [hm2]; exact hM) (by rw [hm2]; exact pd2)
      rw [hm2]; exact sh_M q1
    have hTl : mTail N m2 gl = some (mShd m2 m.o_sheet m.g_sheet_dots) := by
      have := tl_none (gl := gl) (by omega) hme (by rw [hm2]; exact hc0) hot2
      rw [this, hm2]; rfl
    have hfi : kFinish N s2 0 = some (kFin s2 oi2 (pgC d k r cp p) s.o_sheet s.g_sheet_marks s.g_sheet_dots) := by
      unfold kFinish
      refine Option.map_eq_some_iff.mpr ⟨(oi2, pgC d k r cp p, s.o_sheet, s.g_sheet_marks, s.g_sheet_dots), ?_, rfl⟩
      have z1 : s2.o_interpreter = oi2 := by rw [hs2]; cases e <;> rfl
      have z2 : s2.o_page = pgC d k r cp p := by rw [hs2, hp1']; cases e <;> rfl
      have z3 : s2.o_sheet = s.o_sheet := by rw [hs2]; cases e <;> rfl
      have z4 : s2.g_sheet_marks = s.g_sheet_marks := by rw [hs2]; cases e <;> rfl
      have z5 : s2.g_sheet_dots = s.g_sheet_dots := by rw [hs2]; cases e <;> rfl
      rw [z1, z2, z3, z4, z5, fin_0 j2 n2]
    exact st_G hN hC0 hSd hL hpre t1 he16 ha hs2 j2 hfi j2 n2 l2 pok pst hdk hm2 (hG.2.2.2.2.2.2.2.2.2.trans hPgs) hM hps hen hTl hI (by rw [hdB]; exact a2) a3 (fun hq => a4 (by rw [← hdB]; exact hq)) ⟨rfl, rfl, rfl, rfl⟩
  | false =>
    rw [hl] at ho2 hp1
    obtain ⟨e1, e2, e3, e4, e5⟩ := hno hl
    rw [hE] at e3 e5 ho2
    have hp1' : p1 = chQ k r p st := hp1.trans (chW_eq hl hE)
    have ho2' : oi2 = fs_Interpreter_thenNumber (fs_Interpreter_then (fs_Interpreter_ejecting (fs_Interpreter_thenStep s.o_interpreter (nI st)) (nI (false).toNat)) 1) (nI b) := ho2
    have j2 : fd_Interpreter_ejecting oi2 = 0 := by rw [ho2']; rfl
    have l2 : fd_Interpreter_level (fs_Interpreter_then oi2 0) = fd_Interpreter_level s.o_interpreter := by rw [ho2']
    obtain ⟨q, hq⟩ : ∃ q, q = chQ k r p st := ⟨_, rfl⟩
    have qok : pOK k r q := by rw [hq]; exact chQ_ok pok
    have q11 : q 11 = p 11 := by rw [hq]; exact chQ_at 11 (by omega)
    rw [← hq] at e1 e4 hp1'
    have hW := pgW_le (k := k) (r := r) pk
    have hH := pgH_le (k := k) (r := r) pk
    have q0 : q 0 ≤ 122400 := by have := qok.1; omega
    have q1 : q 1 ≤ 122400 := by have := qok.2.1; omega
    obtain ⟨p', hp'⟩ : ∃ p', p' = nset q 0 (min (q 0 + st) (pgW k r)) := ⟨_, rfl⟩
    rw [← hp'] at e1
    have pok' : pOK k r p' := by rw [hp']; exact ok_X qok (Nat.min_le_right _ _)
    have hst' : stk p' s.g_page_stack := by
      refine stk_S (fun i hi => ?_) pst
      rw [hp', hq]
      simp only [nset]
      rw [if_neg (by omega)]
      exact chQ_at i (by omega)
    have hM : dkM k r cp p' om' g9 := dkM_G e1 hG
    have hI : dkI (T + 4) om' := (dkI_G e2 hG).mono (by omega)
    have hpgs : fd_mDesk_pages om' = fd_mDesk_pages m.o_desk := hG.2.2.2.2.2.2.2.2.2.trans (e3.trans hPgs)
    have hor : fd_mDesk_orientation om' = nI r := hM.2.1
    have hme : mMeasure N m2 = some m2 := by
      obtain ⟨sd, w1, w2⟩ := a3
      refine mm_same pd pk (sd := sd) (nd := m.n_sheet_dots) ?_ (by rw [hm2]; exact hM) (by rw [hm2]; exact pd2)
      rw [hm2]; exact sh_M w1
    have z1 : s2.o_interpreter = oi2 := by rw [hs2]; cases e <;> rfl
    have z2 : s2.o_page = pgC d k r cp q := by rw [hs2, hp1']; cases e <;> rfl
    have z3 : s2.o_sheet = s.o_sheet := by rw [hs2]; cases e <;> rfl
    have z4 : s2.g_sheet_marks = s.g_sheet_marks := by rw [hs2]; cases e <;> rfl
    have z5 : s2.g_sheet_dots = s.g_sheet_dots := by rw [hs2]; cases e <;> rfl
    have z6 : s2.o_fonts = s.o_fonts := by rw [hs2]; cases e <;> rfl
    have z7 : s2.g_fonts_ids = s.g_fonts_ids := by rw [hs2]; cases e <;> rfl
    have z8 : s2.g_fonts_glyphs = s.g_fonts_glyphs := by rw [hs2]; cases e <;> rfl
    have z9 : s2.g_fonts_dots = s.g_fonts_dots := by rw [hs2]; cases e <;> rfl
    have z10 : s2.g_fonts_chosen = s.g_fonts_chosen := by rw [hs2]; cases e <;> rfl
    have zt : fd_Interpreter_then oi2 = 1 := by rw [ho2']
    have zn : fd_Interpreter_thenNumber oi2 = nI b := by rw [ho2']
    have zs : fd_Interpreter_thenStep oi2 = nI st := by rw [ho2']
    have fin : ∀ oS' mk' dt', ex_Interpreter_placeCharacter N (fs_Interpreter_then oi2 0) (pgC d k r cp q) s.o_sheet s.o_fonts s.g_fonts_ids s.g_fonts_glyphs s.g_fonts_chosen s.g_sheet_marks s.g_sheet_dots s.g_fonts_dots (nI b) (nI st) = some (pgC d k r cp p', oS', mk', dt') → kFinish N s2 0 = some (kFin s2 (fs_Interpreter_then oi2 0) (pgC d k r cp p') oS' mk' dt') := by
      intro oS' mk' dt' hpl
      unfold kFinish
      refine Option.map_eq_some_iff.mpr ⟨(fs_Interpreter_then oi2 0, pgC d k r cp p', oS', mk', dt'), ?_, rfl⟩
      rw [z1, z2, z3, z4, z5, z6, z7, z8, z9, z10, fin_n j2, zt, zn, zs]
      unfold finT
      rw [if_pos rfl, if_pos rfl]
      exact (bind_eq hpl).trans rfl
    by_cases h32 : b = 32
    · obtain ⟨e6, e7⟩ := e5 h32
      have hpl := pl_32 (N := N) (d := d) (cp := cp) (oi := fs_Interpreter_then oi2 0) (oS := s.o_sheet) (oF := s.o_fonts) (ids := s.g_fonts_ids) (gg := s.g_fonts_glyphs) (ch := s.g_fonts_chosen) (mk := s.g_sheet_marks) (dt := s.g_sheet_dots) (gdt := s.g_fonts_dots) pk pr q0 hst
      rw [← hp', ← h32] at hpl
      have hc0 : fd_mDesk_came om' = 0 := hG.2.2.2.2.2.1.trans (e6.trans t5)
      have hdB : dueB om' = dueB m.o_desk := (dueB_G hG).trans (e7.trans (dueB_Q t4))
      have hTl : mTail N m2 gl = some (mShd m2 m.o_sheet m.g_sheet_dots) := by
        have := tl_none (gl := gl) (by omega) hme (by rw [hm2]; exact hc0) hot2
        rw [this, hm2]; rfl
      exact st_G hN hC0 hSd hL hpre t1 he16 ha hs2 j2 (fin _ _ _ hpl) j2 rfl l2 pok' hst' hdk hm2 hpgs hM hps hen hTl hI (by rw [hdB]; exact a2) a3 (fun hq => a4 (by rw [← hdB]; exact hq)) ⟨rfl, rfl, rfl, rfl⟩
    · obtain ⟨e6, e7, e8, e9⟩ := e4 h32
      have hdB : dueB om' = true := (dueB_G hG).trans e9
      have hg' : glS N n (q 11) b gl s.o_fonts s.g_fonts_ids s.g_fonts_chosen s.g_fonts_glyphs s.g_fonts_dots m.g_shelf_glyph m.g_shelf_store := by rw [q11]; exact hg
      obtain ⟨oS', mk', dt', os', b', l1, l3, l4, l5, l6⟩ := pl_ch (N := N) (d := d) (k := k) (r := r) (cp := cp) (oi := fs_Interpreter_then oi2 0) (or := m.o_this) (osf := m.o_shelf) (od := om') hN pk pr pd q0 q1 hst hb h32 hK hg' a3 hor pd2 (hcx.trans e7) (hcy.trans e8)
      rw [← hp'] at l1
      have hTl : mTail N m2 gl = some (mShd m2 os' b') := by
        refine tl_paint (by omega) hme ?_ ?_ hot2
        · rw [hm2]
          show ¬ fd_mDesk_came om' = 0
          rw [hG.2.2.2.2.2.1, e6]; decide
        · rw [hm2]; exact l3
      exact st_G hN hC0 hSd hL hpre t1 he16 ha hs2 j2 (fin _ _ _ l1) j2 rfl l2 pok' hst' hdk hm2 hpgs hM hps hen hTl hI (by rw [hdB]; exact l5) l4 (fun hq => absurd (hdB.symm.trans hq) (by decide)) l6
/-- a glyph that ejects a page ahead of itself -/
theorem st_C2 {N d k r cp T lv a z b n F u0 st P : Nat} {p p1 q p' : Nat → Nat} {s : CS} {m : RS} {lm : Nat → Int32} {own gl ev : Int32} {i : Nat} (hN : 2 ^ 22 < N) (hb : b < 256) (h32 : b ≠ 32) (hC : cCo N d k r cp T p s m) (hSd : cSd s m) (hL : lvB lv a z b s) (hpre : mByte N m (nI b) = (mIsSeq N (mAdvd m lm i own)).bind (fun was => (mDesk N (mAdvd m lm i own) (nI b)).bind (fun s2 => mPost N (mAdvd m lm i own) s2 gl was)))
    (hK : slK F n u0 s.g_fonts_ids s.g_fonts_permanent s.g_fonts_attributes s.g_fonts_glyphs s.g_fonts_dots m.g_shelf_ids m.g_shelf_permanent m.g_shelf_attributes m.g_shelf_glyph m.g_shelf_store) (hst : st ≤ 2000000) (hg : glS N n (q 11) b gl s.o_fonts s.g_fonts_ids s.g_fonts_chosen s.g_fonts_glyphs s.g_fonts_dots m.g_shelf_glyph m.g_shelf_store)
    {o' : ob_Parser} {gd' : Nat → Int32} {e : Bool} {oi2 : ob_Interpreter} {s2 : CS} (ht : ex_Parser_take N s.o_interpreter_parser s.g_interpreter_parser_data (nI b) = some (o', gd', ev)) (he16 : ev &&& 16 = 0)
    (ha : kAct N (kPut s (upd s.g_interpreter_at lv (nI (a + 1))) o' gd') ev = some s2) (hs2 : s2 = if e then kTk (kPg (kPut s (upd s.g_interpreter_at lv (nI (a + 1))) o' gd') oi2 (pgC d k r cp p1)) lv else kPg (kPut s (upd s.g_interpreter_at lv (nI (a + 1))) o' gd') oi2 (pgC d k r cp p1))
    (hj : ¬ fd_Interpreter_ejecting oi2 = 0) (zt : fd_Interpreter_then oi2 = 1) (zn : fd_Interpreter_thenNumber oi2 = nI b) (zs : fd_Interpreter_thenStep oi2 = nI st) (hl2 : fd_Interpreter_level oi2 = fd_Interpreter_level s.o_interpreter) (hp14 : p1 4 ≤ 122400) (hp17 : p1 7 ≤ 122400) (hq : q = homN k r p1) (hq0 : q 0 ≤ 122400) (hq1 : q 1 ≤ 122400) (hp' : p' = nset q 0 (min (q 0 + st) (pgW k r))) (hok : pOK k r p') (hst' : stk p' s.g_page_stack)
    {om' : ob_mDesk} {g' gp' gg' go' gs' : Nat → Int32} (hdk : ex_mDesk_comes N (fs_mDesk_thrown m.o_desk 0) m.g_desk_state m.g_desk_page (upd m.g_desk_steps i own) m.g_desk_glyph m.g_desk_other m.g_desk_store (nI b) = some (om', g', gp', gg', go', gs')) (hT : T < 2 ^ 29) (hP : fd_mDesk_pages m.o_desk = nI P) (hP2 : fd_mDesk_pages om' = nI (P + 1)) (hP3 : P < 2 ^ 29) (hgp : gp' (4 * (P % 40) + 3) = nI cp) (hdI : dkI (T + 4) om') (hdu : dueB om' = true) (hcm : fd_mDesk_came om' = 1) (hcx : fd_mDesk_cameX om' = nI (q 0)) (hcy : fd_mDesk_cameY om' = nI (q 1)) (hot : fd_mDesk_others om' = 0) (hM : dkM k r cp p' om' g') (hps : psR o' gd' om' go' gs') (hen : enB (fs_mDesk_thrown m.o_desk 0) om' = e) :
    ∃ s' m' e', kRun N 1 s s' ∧ mByte N m (nI b) = some (m', e') ∧ (bRes N d (T + 4) lv a s m s' m' e' ∨ (e' = false ∧ bF N d (T + 4) s m s' m')) := by
  obtain ⟨hPg, hSh, hFo, hKn, hRa, hMa, hFl, hFa, hIt⟩ := hC
  obtain ⟨pd, pk, pr, pcp, pp, pok, pst, pdk, pd1, pd2⟩ := hPg
  have hL0 := hL
  obtain ⟨l1, l2, l3, l4, l5, l6, l7, l8, l9⟩ := hL
  have kn := kn_byte (N := N) l1 l2 l3 l4 l5 l6 l7 l8 l9 ht
  rw [if_pos he16] at kn
  obtain ⟨m2, hm2⟩ : ∃ m2, m2 = mDk (mAdvd m lm i own) (om', g', gp', gg', go', gs') := ⟨_, rfl⟩
  have hset : kSettle N s2 = some s2 := settle_id (by rw [hs2]; cases e <;> exact hKn)
  obtain ⟨ok, u, w, y1, y2, y3, y4, y5, y6⟩ := pr_both (N := N) (d := d) (k := k) (r := r) (cp := cp) (T := T + 4) (P := P) (p := p1) (s := s2) (m := m2) hN pd pk pr pcp (by rw [hs2]; cases e <;> rfl) (by rw [hs2]; cases e <;> exact pd1) (by rw [hm2]; exact pd2) (by rw [hs2, hm2]; cases e <;> exact hSh.2.2.1) (by rw [hs2, hm2]; cases e <;> exact hSh.2.2.2.2.1) (by rw [hs2, hm2]; cases e <;> exact hSh.2.2.2.2.2) (by rw [hs2, hm2]; cases e <;> exact hFl) (by rw [hs2, hm2]; cases e <;> exact hFa) (by omega) (by rw [hm2]; exact hP2) (by rw [hm2]; exact hgp)
  obtain ⟨u1, ur⟩ := u
  obtain ⟨w1, wr⟩ := w
  have y5' : u1 = fs_Main_overruns s2.o_this (fd_Main_overruns u1) := y5
  have y6' : w1 = (if ok then fs_Ref_overruns m2.o_this (fd_Main_overruns u1) else fs_Ref_fault (fs_Ref_overruns m2.o_this (fd_Main_overruns u1)) 20) := y6
  obtain ⟨ov, hov⟩ : ∃ ov, ov = fd_Main_overruns u1 := ⟨_, rfl⟩
  rw [← hov] at y5' y6'
  have oi3 : s2.o_interpreter = oi2 := by rw [hs2]; cases e <;> rfl
  have pg3 : s2.o_page = pgC d k r cp p1 := by rw [hs2]; cases e <;> rfl
  have z4 : s2.g_sheet_marks = s.g_sheet_marks := by rw [hs2]; cases e <;> rfl
  have z5 : s2.g_sheet_dots = s.g_sheet_dots := by rw [hs2]; cases e <;> rfl
  have z6 : s2.o_fonts = s.o_fonts := by rw [hs2]; cases e <;> rfl
  have z7 : s2.g_fonts_ids = s.g_fonts_ids := by rw [hs2]; cases e <;> rfl
  have z8 : s2.g_fonts_glyphs = s.g_fonts_glyphs := by rw [hs2]; cases e <;> rfl
  have z9 : s2.g_fonts_dots = s.g_fonts_dots := by rw [hs2]; cases e <;> rfl
  have z10 : s2.g_fonts_chosen = s.g_fonts_chosen := by rw [hs2]; cases e <;> rfl
  have hgo : ex_Page_goHome N (pgC d k r cp p1) = some (pgC d k r cp q) := by rw [hq]; exact pg_homeC pk pr hp14 hp17
  obtain ⟨oi4, hoi4⟩ : ∃ oi4, oi4 = fs_Interpreter_then (fs_Interpreter_ejecting oi2 0) 0 := ⟨_, rfl⟩
  have oj4 : fd_Interpreter_ejecting oi4 = 0 := by rw [hoi4]
  have ot4 : fd_Interpreter_then oi4 = 0 := by rw [hoi4]
  have ol4 : fd_Interpreter_level oi4 = fd_Interpreter_level s.o_interpreter := by rw [hoi4]; exact hl2
  have hnp : ¬ fd_mDesk_pages m2.o_desk ≤ fd_mDesk_pages (mAdvd m lm i own).o_desk := by
    rw [show fd_mDesk_pages m2.o_desk = nI (P + 1) by rw [hm2]; exact hP2, show fd_mDesk_pages (mAdvd m lm i own).o_desk = nI P from hP]
    exact nI_ge (by omega) (by omega)
  have hdk' : mDesk N (mAdvd m lm i own) (nI b) = some m2 := by
    rw [hm2]; unfold mDesk
    exact Option.map_eq_some_iff.mpr ⟨_, hdk, rfl⟩
  have kf : kfG s s2 := by rw [hs2]; cases e <;> exact kfG_refl s
  have hdp' : fd_Ref_dpi (mPr m2 (w1, wr)).o_this = nI d := by
    show fd_Ref_dpi w1 = nI d
    rw [y6', hm2]; cases ok <;> exact pd2
  have rfm : rfM m (mPr m2 (w1, wr)) := by
    rw [y6', hm2]; cases ok <;> exact rfM_refl m
  have e1 : ∀ code, CS.o_interpreter (kFail (kPr s2 (u1, ur)) code) = oi2 := fun _ => oi3
  have e2 : ∀ code, CS.o_page (kFail (kPr s2 (u1, ur)) code) = pgC d k r cp p1 := fun _ => pg3
  have hRm := rsR_mono (T' := T + 4) (by omega) hRa
  cases ok with
  | false =>
    obtain ⟨s', hs'⟩ : ∃ s', s' = kFin (kFail (kPr s2 (u1, ur)) 20) oi4 (pgC d k r cp p') (kPr s2 (u1, ur)).o_sheet s2.g_sheet_marks s2.g_sheet_dots := ⟨_, rfl⟩
    have hfi : kFinish N (kFail (kPr s2 (u1, ur)) 20) (if (20 : Int32) = 0 then 0 else 1) = some s' := by
      unfold kFinish
      refine Option.map_eq_some_iff.mpr ⟨(oi4, pgC d k r cp p', (kPr s2 (u1, ur)).o_sheet, s2.g_sheet_marks, s2.g_sheet_dots), ?_, by rw [hs']; rfl⟩
      rw [e1, e2, fin_e hj hgo, zt, zn, zs, ← hoi4]
      unfold finT
      rw [if_pos rfl, if_neg (show ¬ (if (20 : Int32) = 0 then (0 : Int32) else 1) = 0 by decide)]
      refine (bind_eq (set_x pk pr hq0 hst)).trans ?_
      rw [← hp']; rfl
    have hstp : kStep N s = some s' := step_e (oF := s.o_fonts) (ch := s.g_fonts_chosen) (lf := s.g_fonts_left) kn ha hset (by rw [oi3]; exact hj) y1 hfi
    have hrun := kRun.one hFa.1 (more_ok hL0) hstp
    have kf' : kfG s s' := by
      refine kfG_trans kf ?_
      rw [hs', y5']
      exact kfG_refl s2
    have hSW : shW (T + 4) d k r s' (mPr m2 (w1, wr)) := by rw [hs']; exact y3
    have hMa' : cMa (T + 4) s' (mPr m2 (w1, wr)) := by
      obtain ⟨b1, b2, b3, b4⟩ := hMa
      rw [hs', hs2, y6', hm2]
      cases e <;> exact ⟨mcS_mono (by omega) b1, b2, b3, b4⟩
    have hRa' : cRa d (T + 4) s' (mPr m2 (w1, wr)) := by
      rw [hs', hs2, y6', hm2]
      cases e <;> exact hRm
    have hFl' : cFl s' (mPr m2 (w1, wr)) := by rw [hs']; exact y4
    have hFo' : cFo N s' (mPr m2 (w1, wr)) := by rw [hs', hs2, hm2]; cases e <;> exact hFo
    have hKn' : fd_FontShelf_chosenKnown s'.o_fonts = 1 := by rw [hs', hs2]; cases e <;> exact hKn
    have hdp1 : fd_Main_dpi s'.o_this = nI d := by
      rw [hs']
      show fd_Main_dpi (fs_Main_fault u1 20) = nI d
      rw [y5', hs2]; cases e <;> exact pd1
    have hPg' : cPg d k r cp p' s' (mPr m2 (w1, wr)) := by
      refine ⟨pd, pk, pr, pcp, by rw [hs']; rfl, hok, ?_, ?_, hdp1, hdp'⟩
      · rw [hs', hs2]; cases e <;> exact hst'
      · rw [hm2]; exact hM
    refine ⟨s', mPr m2 (w1, wr), false, hrun, ?_, Or.inr ⟨rfl, ?_, ?_, ⟨k, r, cp, p', hPg'⟩, ⟨k, r, hSW⟩, hFo', hKn', hRa', hMa', hFl', ?_, kf', rfm.2.2.2.2.2.2.2.2.2.2.2.2.2, by rw [hm2]; exact hdI⟩⟩
    · rw [hpre]
      refine (bind_eq is_seq).trans ?_
      refine (bind_eq hdk').trans ?_
      unfold mPost
      rw [if_neg hnp]
      refine (bind_eq y2).trans ?_
      exact if_neg (show ¬ fd_Ref_fault w1 ≤ 0 by rw [y6']; show ¬ ((20 : Int32) ≤ 0); decide)
    · rw [hs']; rfl
    · show fd_Ref_fault w1 = 20; rw [y6']; rfl
    · rw [hs']; exact ⟨oj4, ot4⟩
  | true =>
    obtain ⟨os1, x1, x2, x3⟩ := ms_new (N := N) (k' := k) (r' := r) (T := T + 4) (s := kPr s2 (u1, ur)) pd pk pr y3 (show dkM k r cp p' (mPr m2 (w1, wr)).o_desk (mPr m2 (w1, wr)).g_desk_state by rw [hm2]; exact hM) hdp'
    have x2' : ∃ sd, shR k r d (kPr s2 (u1, ur)).o_sheet os1 s.g_sheet_marks s.g_sheet_dots (mPr m2 (w1, wr)).g_sheet_dots sd m.n_sheet_dots ∧ ∀ j, j < 5 → wdN j d ≤ 64 * sd ∧ sd * hgN j d ≤ m.n_sheet_dots := by
      rw [← z4, ← z5]
      have hnd : (mPr m2 (w1, wr)).n_sheet_dots = m.n_sheet_dots := by rw [hm2]; rfl
      rw [← hnd]; exact x2
    have hor : fd_mDesk_orientation om' = nI r := hM.2.1
    obtain ⟨oS', mk', dt', os', b', v1, v3, v4, v5, v6⟩ := pl_ch (N := N) (d := d) (k := k) (r := r) (cp := cp) (oi := oi4) (or := w1) (osf := m.o_shelf) (od := om') hN pk pr pd hq0 hq1 hst hb h32 hK hg x2' hor hdp' hcx hcy
    rw [← hp'] at v1
    obtain ⟨s', hs'⟩ : ∃ s', s' = kFin (kFail (kPr s2 (u1, ur)) 0) oi4 (pgC d k r cp p') oS' mk' dt' := ⟨_, rfl⟩
    have hfi : kFinish N (kFail (kPr s2 (u1, ur)) 0) (if (0 : Int32) = 0 then 0 else 1) = some s' := by
      unfold kFinish
      refine Option.map_eq_some_iff.mpr ⟨(oi4, pgC d k r cp p', oS', mk', dt'), ?_, by rw [hs']; rfl⟩
      have f3 : CS.g_sheet_marks (kFail (kPr s2 (u1, ur)) 0) = s.g_sheet_marks := z4
      have f4 : CS.g_sheet_dots (kFail (kPr s2 (u1, ur)) 0) = s.g_sheet_dots := z5
      have f5 : CS.o_fonts (kFail (kPr s2 (u1, ur)) 0) = s.o_fonts := z6
      have f6 : CS.g_fonts_ids (kFail (kPr s2 (u1, ur)) 0) = s.g_fonts_ids := z7
      have f7 : CS.g_fonts_glyphs (kFail (kPr s2 (u1, ur)) 0) = s.g_fonts_glyphs := z8
      have f8 : CS.g_fonts_dots (kFail (kPr s2 (u1, ur)) 0) = s.g_fonts_dots := z9
      have f9 : CS.g_fonts_chosen (kFail (kPr s2 (u1, ur)) 0) = s.g_fonts_chosen := z10
      rw [e1, e2, f3, f4, f5, f6, f7, f8, f9, fin_e hj hgo, zt, zn, zs, ← hoi4]
      unfold finT
      rw [if_pos rfl, if_pos (show (if (0 : Int32) = 0 then (0 : Int32) else 1) = 0 by decide)]
      exact (bind_eq v1).trans rfl
    have hstp : kStep N s = some s' := step_e (oF := s.o_fonts) (ch := s.g_fonts_chosen) (lf := s.g_fonts_left) kn ha hset (by rw [oi3]; exact hj) y1 hfi
    have hrun := kRun.one hFa.1 (more_ok hL0) hstp
    obtain ⟨m3, hm3⟩ : ∃ m3, m3 = mShd (mShd (mPr m2 (w1, wr)) os1 (mPr m2 (w1, wr)).g_sheet_dots) os' b' := ⟨_, rfl⟩
    have hTl : mTail N (mPr m2 (w1, wr)) gl = some m3 := by
      rw [hm3]
      refine tl_paint (by omega) x1 ?_ ?_ ?_
      · rw [hm2]
        show ¬ fd_mDesk_came om' = 0
        rw [hcm]; decide
      · rw [hm2] at v3 ⊢; exact v3
      · rw [hm2]; exact hot
    have hEn : mEnd N (mPr m2 (w1, wr)) gl (nI (decide (¬ fd_mDesk_phase (mAdvd m lm i own).o_desk ≤ 1)).toNat) = some (m3, e) := by
      rw [me_t hTl, ← hen, hm3, hm2]; rfl
    have kf' : kfG s s' := by
      refine kfG_trans kf ?_
      rw [hs', y5']
      exact kfG_refl s2
    have hMa' : cMa (T + 4) s' m3 := by
      obtain ⟨b1, b2, b3, b4⟩ := hMa
      rw [hs', hs2, hm3, y6', hm2]
      cases e <;> exact ⟨mcS_mono (by omega) b1, b2, b3, b4⟩
    have hRa' : cRa d (T + 4) s' m3 := by
      rw [hs', hs2, hm3, y6', hm2]
      cases e <;> exact hRm
    have hFl' : cFl s' m3 := by rw [hs', hm3]; exact y4
    have hFo' : cFo N s' m3 := by rw [hs', hs2, hm3, hm2]; cases e <;> exact hFo
    have hKn' : fd_FontShelf_chosenKnown s'.o_fonts = 1 := by rw [hs', hs2]; cases e <;> exact hKn
    have hdp1 : fd_Main_dpi s'.o_this = nI d := by
      rw [hs']
      show fd_Main_dpi (fs_Main_fault u1 0) = nI d
      rw [y5', hs2]; cases e <;> exact pd1
    have hPg' : cPg d k r cp p' s' m3 := by
      refine ⟨pd, pk, pr, pcp, by rw [hs']; rfl, hok, ?_, ?_, hdp1, ?_⟩
      · rw [hs', hs2]; cases e <;> exact hst'
      · rw [hm3, hm2]; exact hM
      · rw [hm3]; exact hdp'
    have hSh' : cSh (T + 4) d k r s' m3 := by
      obtain ⟨_, _, _, ⟨⟨BL, b1, b2⟩, b5⟩, ⟨g1, g2, g3, ru⟩⟩ := y3
      rw [hs', hm3]
      refine ⟨?_, ?_, ?_, ?_, ⟨⟨BL, v6.1.trans b1, b2⟩, b5⟩, ⟨g1, g2, g3, v6.2.1.trans ru.1, ru.2.1, v6.2.2.1.trans ru.2.2.1, ru.2.2.2.1, v6.2.2.2.trans ru.2.2.2.2.1, ru.2.2.2.2.2⟩⟩
      · rw [hm2]; exact hdI
      · rw [hm2]
        show fd_Sheet_due oS' = nI (dueB om').toNat
        rw [v5, hdu]; rfl
      · rw [hm2]; exact v4
      · rw [hm2]
        intro hq9
        exact absurd ((show dueB om' = false from hq9).symm.trans hdu) (by decide)
    refine ⟨s', m3, e, hrun, ?_, Or.inl ⟨⟨k, r, cp, p', hPg', hSh', hFo', hKn', hRa', hMa', hFl', ⟨?_, ?_⟩, ?_⟩, ?_, ?_, kf', ?_, ?_⟩⟩
    · rw [hpre]
      refine (bind_eq is_seq).trans ?_
      refine (bind_eq hdk').trans ?_
      unfold mPost
      rw [if_neg hnp]
      refine (bind_eq y2).trans ?_
      refine (if_pos (show fd_Ref_fault w1 ≤ 0 by rw [y6', hm2]; exact Int32.le_of_eq hFa.2)).trans ?_
      exact hEn
    · rw [hs']; rfl
    · rw [hm3]
      show fd_Ref_fault w1 = 0
      rw [y6', hm2]; exact hFa.2
    · rw [hs']; exact ⟨oj4, ot4⟩
    · rw [hs', hs2, hm3, hm2]; cases e <;> exact hps
    · rw [hs', hs2]; cases e <;> exact ⟨rfl, rfl, rfl, rfl, rfl, ol4⟩
    · have hsd3 : cSd s m3 := by
        obtain ⟨c, c1, c2, c3, c4⟩ := hSd
        refine ⟨c, c1, c2, ?_, ?_⟩
        · rw [hm3]
          show fd_Ref_xMany w1 = nI c
          rw [y6', hm2]; exact c3
        · rw [hm3, hm2]; exact c4
      rw [hs', hs2]
      cases e with
      | false => exact ⟨fun _ => ⟨⟨rfl, rfl, rfl, rfl⟩, hsd3⟩, fun h => absurd h (by decide)⟩
      | true => exact ⟨fun h => absurd h (by decide), fun _ => tk_acts (lv := lv) (s := s) (m := m3) l2 hsd3⟩
    · rw [hm3]
      exact rfm
/-- a character, whole -/
theorem st_C {N d k r cp T lv a z b n F u : Nat} {p : Nat → Nat} {s : CS} {m : RS} {lm : Nat → Int32} {own gl : Int32} (hN : 2 ^ 22 < N) (hT : T < 2 ^ 28) (hb : b < 256) (hC : cCo N d k r cp T p s m) (hSd : cSd s m) (hL : lvB lv a z b s) (hpre : mByte N m (nI b) = (mIsSeq N (mAdvd m lm (256 * p 11 + b) own)).bind (fun was => (mDesk N (mAdvd m lm (256 * p 11 + b) own) (nI b)).bind (fun s2 => mPost N (mAdvd m lm (256 * p 11 + b) own) s2 gl was)))
    (hK : slK F n u s.g_fonts_ids s.g_fonts_permanent s.g_fonts_attributes s.g_fonts_glyphs s.g_fonts_dots m.g_shelf_ids m.g_shelf_permanent m.g_shelf_attributes m.g_shelf_glyph m.g_shelf_store) (hgl : glR N n (p 11) b gl own s m)
    (ho : oC N b s.o_interpreter_parser s.g_interpreter_parser_data (fs_mDesk_thrown m.o_desk 0) m.g_desk_state m.g_desk_page (upd m.g_desk_steps (256 * p 11 + b) own) m.g_desk_glyph m.g_desk_other m.g_desk_store) : bR N d T lv a b s m := by
  have hC0 := hC
  obtain ⟨hPg, hSh, hFo, hKn, hRa, hMa, hFl, hFa, hIt⟩ := hC
  obtain ⟨pd, pk, pr, pcp, pp, pok, pst, pdk, pd1, pd2⟩ := hPg
  obtain ⟨st, hst, hs, hown, hg⟩ := gl_own (P6 := p 6) pok.2.2.2.2.2.2.1 hgl
  obtain ⟨o', om1, w, e, t1, t2, t3, t4, t5, t6⟩ := ho
  have t4' : dkQ m.o_desk om1 := dkQ_trans (show dkQ m.o_desk (fs_mDesk_thrown m.o_desk 0) from dkQ_refl _) t4
  have hI1 := dkI_Q t4' hSh.1
  have hI1' := hI1
  obtain ⟨A, G, P, i1, i2, i3, i4, i5, i6, i7⟩ := hI1'
  have hup : upd m.g_desk_steps (256 * p 11 + b) own (256 * p 11 + b) = own := by unfold upd; rw [if_pos rfl]
  obtain ⟨o9, g9, gp9, gg9, f1, f2, f3, f4⟩ := md_char (N := N) (gp := m.g_desk_page) (gg := m.g_desk_glyph) (gst := upd m.g_desk_steps (256 * p 11 + b) own) (s := st) pk pok (by omega) hI1 i3 (by omega) (dkM_Q pdk t4') hb (by rw [hup]; exact hown)
  have hdk := t3.trans (bind_eq f1)
  obtain ⟨u1, u2, u3, u4, u5, u6⟩ := t6 o9 f2
  cases hE : chE k r p st with
  | false =>
    obtain ⟨s', m', e', x1, x2, x3⟩ := st_C1 (om1 := om1) hN hT hb hC0 hSd hL hpre hK hst hs hg t1 t2 hdk t4' t5 u2 u3 u4 u5 u1 u6 hE f3 (fun hl => by
      obtain ⟨y1, y2, y3, y4, y5, y6, y7⟩ := f4 hl
      exact ⟨y1, y2, y3, y6, y7⟩)
    exact ⟨s', m', e', x1, x2, Or.inl x3⟩
  | true =>
    obtain ⟨w1, w2, w3⟩ := chW_hom hE
    obtain ⟨y1, y2, y3, y4, y5, y6, y7⟩ := f4 w3
    rw [hE, if_pos rfl] at y3
    obtain ⟨s1, hs1⟩ : ∃ s1, s1 = kPut s (upd s.g_interpreter_at lv (nI (a + 1))) o' s.g_interpreter_parser_data := ⟨_, rfl⟩
    obtain ⟨oi2, p1, ha, ho2, hp1⟩ := ka_ch (N := N) (d := d) (k := k) (r := r) (cp := cp) (lv := lv) (b := b) (st := st) (p := p) (s1 := s1) e pk pr pok (by rw [hs1]; exact pp) (by rw [hs1]; exact t2) (by rw [hs1]; exact hIt.1) hst (by rw [hs1]; exact hs) (by rw [hs1]; exact hL.1) hL.2.1
    have oi1 : s1.o_interpreter = s.o_interpreter := by rw [hs1]; rfl
    rw [oi1, w3, hE] at ho2
    rw [w3] at hp1
    have hp1' : p1 = chW k r p st := hp1
    have ho2' : oi2 = fs_Interpreter_thenNumber (fs_Interpreter_then (fs_Interpreter_ejecting (fs_Interpreter_thenStep s.o_interpreter (nI st)) (nI (true).toNat)) 1) (nI b) := ho2
    have j2 : ¬ fd_Interpreter_ejecting oi2 = 0 := by
      rw [ho2']
      show ¬ nI (true).toNat = 0
      decide
    have zt : fd_Interpreter_then oi2 = 1 := by rw [ho2']
    have zn : fd_Interpreter_thenNumber oi2 = nI b := by rw [ho2']
    have zs : fd_Interpreter_thenStep oi2 = nI st := by rw [ho2']
    have l2 : fd_Interpreter_level oi2 = fd_Interpreter_level s.o_interpreter := by rw [ho2']
    have he16 : (if e then (9 : Int32) else 1) &&& 16 = 0 := by cases e <;> decide
    rw [hs1] at ha
    obtain ⟨q, hq⟩ : ∃ q, q = chQ k r p st := ⟨_, rfl⟩
    have hqh : q = homN k r p1 := by rw [hq, hp1']; exact w1
    have qok : pOK k r q := by rw [hq]; exact chQ_ok pok
    have q11 : q 11 = p 11 := by rw [hq]; exact chQ_at 11 (by omega)
    rw [← hq] at y1 y6
    have hW := pgW_le (k := k) (r := r) pk
    have hH := pgH_le (k := k) (r := r) pk
    have q0 : q 0 ≤ 122400 := by have := qok.1; omega
    have q1 : q 1 ≤ 122400 := by have := qok.2.1; omega
    have p14 : p1 4 ≤ 122400 := by
      rw [hp1', w2]; exact pok.2.2.2.2.1
    have p17 : p1 7 ≤ 122400 := by
      rw [hp1', w2]; exact pok.2.2.2.2.2.2.2.1
    obtain ⟨p', hp'⟩ : ∃ p', p' = nset q 0 (min (q 0 + st) (pgW k r)) := ⟨_, rfl⟩
    rw [← hp'] at y1
    have pok' : pOK k r p' := by rw [hp']; exact ok_X qok (Nat.min_le_right _ _)
    have hst' : stk p' s.g_page_stack := by
      refine stk_S (fun i hi => ?_) pst
      rw [hp', hq]
      simp only [nset]
      rw [if_neg (by omega)]
      exact chQ_at i (by omega)
    have hM : dkM k r cp p' (w o9) g9 := dkM_G y1 u2
    have hI : dkI (T + 4) (w o9) := (dkI_G y2 u2).mono (by omega)
    have hP : fd_mDesk_pages m.o_desk = nI P := t4'.2.2.2.2.2.2.2.2.symm.trans i3
    have hP2 : fd_mDesk_pages (w o9) = nI (P + 1) := by rw [u2.2.2.2.2.2.2.2.2.2, y3, i3, nI_1]
    by_cases h32 : b = 32
    · obtain ⟨e6, e7⟩ := y7 h32
      rw [hE, if_pos rfl] at e7
      refine st_E (p1 := p1) (p' := p') (oi2 := oi2) (e := e) (P := P) hN hC0 hSd hL hpre t1 he16 ha rfl j2 l2 p14 p17 ?_ pk pr pcp pok' hst' hdk (by omega) hP hP2 (by omega) (y4 hE) hI ((dueB_G u2).trans e7) (u2.2.2.2.2.2.1.trans (e6.trans t5)) u5 hM u1 u6
      intro oS oF mk dt ids gl fd_ ch v
      rw [zt, zn, zs, h32, ← hqh]
      unfold finT
      rw [if_pos rfl]
      by_cases qv : v = 0
      · rw [if_pos qv]
        refine (bind_eq (pl_32 pk pr q0 hst)).trans ?_
        rw [← hp']
      · rw [if_neg qv]
        refine (bind_eq (set_x pk pr q0 hst)).trans ?_
        rw [← hp']
    · obtain ⟨e6, e7, e8, e9⟩ := y6 h32
      exact st_C2 (p1 := p1) (q := q) (p' := p') (oi2 := oi2) (e := e) (P := P) (st := st) hN hb h32 hC0 hSd hL hpre hK hst (by rw [q11]; exact hg) t1 he16 ha rfl j2 zt zn zs l2 p14 p17 hqh q0 q1 hp' pok' hst' hdk (by omega) hP hP2 (by omega) (y4 hE) hI ((dueB_G u2).trans e9) (u2.2.2.2.2.2.1.trans e6) (u3.trans e7) (u4.trans e8) u5 hM u1 u6
/-- every byte that the parser takes at once -/
theorem byte_step {N d k r cp T lv a z b : Nat} {p : Nat → Nat} {s : CS} {m : RS} (hN : 2 ^ 22 < N) (hT : T ≤ 134000000) (hb : b < 256) (hC : cCo N d k r cp T p s m) (hSd : cSd s m) (hPs : cPs s m) (hL : lvB lv a z b s) : bR N d T lv a b s m ∨ oA N b s.o_interpreter_parser s.g_interpreter_parser_data m.o_desk := by
  have hC0 := hC
  obtain ⟨hPg, hSh, hFo, hKn, hRa, hMa, hFl, hFa, hIt⟩ := hC
  obtain ⟨pd, pk, pr, pcp, pp, pok, pst, pdk, pd1, pd2⟩ := hPg
  obtain ⟨F, n, u, hS, hW, hCh⟩ := hFo
  have hch : chM N F m.g_shelf_pins m.g_shelf_ids m.g_shelf_wishes m.g_shelf_attributes m.g_shelf_permanent s.g_fonts_chosen := by
    rcases hCh with q | ⟨_, q⟩
    · rw [hKn] at q; exact absurd q (by decide)
    · exact q
  have hw : p 11 < 2 := by have := pok.2.2.2.2.2.2.2.2.2.2.2.1; omega
  obtain ⟨gl, own, lm, hpre, hgl⟩ := pre_byte (N := N) (b := b) (by omega) hw hb (pdk.2.2.2.2.2 11 (by omega)) hS hch
  have hPs' : psR s.o_interpreter_parser s.g_interpreter_parser_data (fs_mDesk_thrown m.o_desk 0) m.g_desk_other m.g_desk_store := hPs
  rcases hPs' with ⟨h1, h2⟩ | ⟨h1, h2⟩ | ⟨f, h1⟩ | ⟨f, gr, h1⟩ | ⟨f, gr, e, mm, dl, v, sg, la, h1⟩ | ⟨dl, la, h1⟩
  · rcases tk_c0 (N := N) (gd := s.g_interpreter_parser_data) (g := m.g_desk_state) (gp := m.g_desk_page) (st := upd m.g_desk_steps (256 * p 11 + b) own) (gg := m.g_desk_glyph) (go := m.g_desk_other) (gs := m.g_desk_store) h1 h2 hb with o | o | o
    · obtain ⟨s', m', e', x1, x2, x3⟩ := st_Q hN (cCo_mono (T' := T + 4) (by omega) hC0) hSd hL hpre o
      exact Or.inl ⟨s', m', e', x1, x2, Or.inl x3⟩
    · exact Or.inl (st_C hN (by omega) hb hC0 hSd hL hpre hS.1 hgl o)
    · exact Or.inl (st_T hN (by omega) hC0 hSd hL hpre o)
  · rcases tk_c1 (N := N) (gd := s.g_interpreter_parser_data) (g := m.g_desk_state) (gp := m.g_desk_page) (st := upd m.g_desk_steps (256 * p 11 + b) own) (gg := m.g_desk_glyph) (go := m.g_desk_other) (gs := m.g_desk_store) h1 h2 hb with o | o
    · obtain ⟨s', m', e', x1, x2, x3⟩ := st_Q hN (cCo_mono (T' := T + 4) (by omega) hC0) hSd hL hpre o
      exact Or.inl ⟨s', m', e', x1, x2, Or.inl x3⟩
    · exact Or.inl (st_S hN (by omega) hb hC0 hSd hL hpre o)
  · rcases tk_c2 (N := N) (gd := s.g_interpreter_parser_data) (g := m.g_desk_state) (gp := m.g_desk_page) (st := upd m.g_desk_steps (256 * p 11 + b) own) (gg := m.g_desk_glyph) (go := m.g_desk_other) (gs := m.g_desk_store) (by omega) h1 hb with o | o | o
    · obtain ⟨s', m', e', x1, x2, x3⟩ := st_Q hN (cCo_mono (T' := T + 4) (by omega) hC0) hSd hL hpre o
      exact Or.inl ⟨s', m', e', x1, x2, Or.inl x3⟩
    · exact Or.inl (st_M hN hT hC0 hSd hL hpre o)
    · exact Or.inr o
  · rcases tk_c3 (N := N) (gd := s.g_interpreter_parser_data) (g := m.g_desk_state) (gp := m.g_desk_page) (st := upd m.g_desk_steps (256 * p 11 + b) own) (gg := m.g_desk_glyph) (go := m.g_desk_other) (gs := m.g_desk_store) (by omega) h1 hb with o | o | o
    · obtain ⟨s', m', e', x1, x2, x3⟩ := st_Q hN (cCo_mono (T' := T + 4) (by omega) hC0) hSd hL hpre o
      exact Or.inl ⟨s', m', e', x1, x2, Or.inl x3⟩
    · exact Or.inl (st_M hN hT hC0 hSd hL hpre o)
    · exact Or.inr o
  · rcases tk_c4 (N := N) (g := m.g_desk_state) (gp := m.g_desk_page) (st := upd m.g_desk_steps (256 * p 11 + b) own) (gg := m.g_desk_glyph) h1 hb with o | o
    · obtain ⟨s', m', e', x1, x2, x3⟩ := st_Q hN (cCo_mono (T' := T + 4) (by omega) hC0) hSd hL hpre o
      exact Or.inl ⟨s', m', e', x1, x2, Or.inl x3⟩
    · exact Or.inl (st_D hN hT hC0 hSd hL hpre o)
  · exact Or.inl (st_C hN (by omega) hb hC0 hSd hL hpre hS.1 hgl (tk_c5 h1 hb))
/-- ESC inside a sequence, on both sides -/
def oE (N : Nat) (o : ob_Parser) (gd : Nat → Int32) (om : ob_mDesk) (g gp st gg go gs : Nat → Int32) : Prop := psN om ∧ ∃ (o' : ob_Parser) (om' : ob_mDesk), ex_Parser_take N o gd (nI 27) = some (o', gd, 24) ∧ fd_Parser_mode o' = 0 ∧ ex_mDesk_comes N om g gp st gg go gs (nI 27) = some (om', g, gp, gg, go, gs) ∧ dkQ om om' ∧ fd_mDesk_phase om' = 1 ∧ fd_mDesk_came om' = 0 ∧ psN om'
theorem fl_e {N f gr : Nat} {o o2 : ob_Parser} {gd : Nat → Int32} {om om2 : ob_mDesk} {g gp st gg go gs : Nat → Int32} (h3 : ps3 f gr o2 om2) (ht : ex_Parser_take N o gd (nI 27) = (ex_Parser_takeField N o2 (nI 27)).bind (fun u => some (u.1, gd, u.2))) (hc : ex_mDesk_comes N om g gp st gg go gs (nI 27) = (ex_mDesk_field N om2 g gp go (nI 27)).bind (fun u => some (u.1, u.2.1, u.2.2.1, gg, u.2.2.2, gs))) (hq : dkQ om om2) (hcm : fd_mDesk_came om2 = 0) (hnm : psN om) : oE N o gd om g gp st gg go gs := by
  obtain ⟨⟨a1, a2⟩, hn, ⟨bf, bg, f1, f2, g1, g2⟩, ph, sg, wh, bh, pl, hN2, hC, hM2⟩ := h3
  have hk : fldK 27 ph = false := by
    unfold fldK
    rw [decide_eq_false (show ¬ (48 ≤ 27) by omega), decide_eq_false (show ¬ (27 = 43) by omega), decide_eq_false (show ¬ (27 = 45) by omega), decide_eq_false (show ¬ (27 = 46) by omega)]
    rfl
  obtain ⟨t1, t2⟩ := fld_stop (N := N) (g := g) (gp := gp) (go := go) hN2 hC hM2 (show 27 < 256 by omega) hk rfl
  rw [if_pos rfl] at t1 t2
  refine ⟨hnm, fs_Parser_mode o2 0, fs_mDesk_phase om2 1, ?_, rfl, ?_, hq, rfl, hcm, hn⟩
  · rw [ht, t1]; rfl
  · rw [hc, t2]; rfl
theorem tk_E {N : Nat} {o : ob_Parser} {gd : Nat → Int32} {om : ob_mDesk} {g gp st gg go gs : Nat → Int32} (h : psR o gd om go gs) (hp : fd_mDesk_phase om = 2 ∨ fd_mDesk_phase om = 3) : oE N o gd om g gp st gg go gs := by
  have bad : ∀ md, psA md o om → (md = 0 ∨ md = 1 ∨ md = 4 ∨ md = 5) → False := by
    intro md ha hm
    have h1 : fd_mDesk_phase om = nI (min md 4) := ha.2
    rcases hm with rfl | rfl | rfl | rfl <;> (rcases hp with q | q <;> (rw [h1] at q; revert q; decide))
  rcases h with ⟨h1, h2⟩ | ⟨h1, h2⟩ | ⟨f, h1⟩ | ⟨f, gr, h1⟩ | ⟨f, gr, e, mm, dl, v, sg, la, h1⟩ | ⟨dl, la, h1⟩
  · exact absurd (bad 0 h1 (by omega)) id
  · exact absurd (bad 1 h1 (by omega)) id
  · obtain ⟨⟨a1, a2⟩, hn, bf, f1, f2, g2⟩ := h1
    have a1' : fd_Parser_mode o = 2 := a1
    have a2' : fd_mDesk_phase om = 2 := a2
    exact fl_e (o2 := fs_Parser_group (pBeg (fs_Parser_taken (fs_Parser_mode o 3) (nI 27))) 0) (om2 := mBeg (cm0 (fs_mDesk_phase om 3))) (f := f) (gr := 0) ⟨⟨rfl, rfl⟩, hn, ⟨bf, by omega, f1, f2, rfl, g2⟩, 0, 0, 0, 0, 0, fld_0, pBeg_C _, mBeg_M _⟩ (tk_2 a1' (by omega) (by omega)) (cm_2 a2' (by omega) (by omega)) (dkQ_refl _) rfl hn
  · have hn := h1.2.1
    have a2 : fd_mDesk_phase om = 3 := h1.1.2
    exact fl_e (o2 := fs_Parser_taken o (nI 27)) (om2 := cm0 om) h1 (tk_3 h1.1.1) (cm_3 a2) (dkQ_refl _) rfl hn
  · exact absurd (bad 4 h1.1 (by omega)) id
  · exact absurd (bad 5 h1.1 (by omega)) id
theorem kTk_id {s : CS} {lv : Nat} (h1 : fd_Macros_said s.o_macros = 0) (h2 : s.g_interpreter_actCount lv = 0) (h3 : s.g_interpreter_actNext lv = 0) (h4 : va_cpy s.g_macros_saidActs s.g_interpreter_acts 0 (8 * lv) 8 = s.g_interpreter_acts) (h5 : va_cpy s.g_macros_saidIds s.g_interpreter_actIds 0 (8 * lv) 8 = s.g_interpreter_actIds) : kTk s lv = s := by
  unfold kTk
  rw [h4, h5, h1]
  have e1 : upd s.g_interpreter_actCount lv 0 = s.g_interpreter_actCount := by
    have := upd_id s.g_interpreter_actCount lv
    rw [h2] at this; exact this
  have e2 : upd s.g_interpreter_actNext lv 0 = s.g_interpreter_actNext := by
    have := upd_id s.g_interpreter_actNext lv
    rw [h3] at this; exact this
  rw [e1, e2]
  have e3 : fs_Macros_said s.o_macros 0 = s.o_macros := by rw [← h1]
  rw [e3]
/-- the round of the class that ends a sequence at an ESC -/
theorem st_again {N d k r cp T lv a z : Nat} {p : Nat → Nat} {s : CS} {m : RS} {o' : ob_Parser} (hN : 2 ^ 22 < N) (hC : cCo N d k r cp T p s m) (hSd : cSd s m) (hL : lvB lv a z 27 s) (hn : psN m.o_desk) (ht : ex_Parser_take N s.o_interpreter_parser s.g_interpreter_parser_data (nI 27) = some (o', s.g_interpreter_parser_data, 24)) (hm : fd_Parser_mode o' = 0) :
    ∃ s', s' = kTk (kPut s s.g_interpreter_at o' s.g_interpreter_parser_data) lv ∧ kRun N 1 s s' ∧ cCo N d k r cp T p s' (mStopped m) ∧ cPs s' (mStopped m) ∧ acT lv s s' m ∧ s'.g_interpreter_at = s.g_interpreter_at ∧ s'.g_interpreter_ends = s.g_interpreter_ends ∧ kfG s s' := by
  obtain ⟨hPg, hSh, hFo, hKn, hRa, hMa, hFl, hFa, hIt⟩ := hC
  have hL0 := hL
  obtain ⟨l1, l2, l3, l4, l5, l6, l7, l8, l9⟩ := hL
  have kn := kn_byte (N := N) l1 l2 l3 l4 l5 l6 l7 l8 l9 ht
  rw [if_neg (show ¬ ((24 : Int32) &&& 16 = 0) by decide)] at kn
  obtain ⟨s', hs'⟩ : ∃ s', s' = kTk (kPut s s.g_interpreter_at o' s.g_interpreter_parser_data) lv := ⟨_, rfl⟩
  have ha : kAct N (kPut s s.g_interpreter_at o' s.g_interpreter_parser_data) 24 = some s' := by
    have := ka_do (N := N) (lv := lv) (s := kPut s s.g_interpreter_at o' s.g_interpreter_parser_data) (x := kPut s s.g_interpreter_at o' s.g_interpreter_parser_data) (v := 24) true (by decide) (by rw [if_neg (show ¬ ((24 : Int32) &&& 7 = 4) by decide)]; exact kd_no (K := 0) (by omega) (by omega)) l1 l2
    rw [this, hs']; rfl
  have hj : fd_Interpreter_ejecting s'.o_interpreter = 0 := by rw [hs']; exact hIt.1
  have hth : fd_Interpreter_then s'.o_interpreter = 0 := by rw [hs']; exact hIt.2
  have hfi : kFinish N s' 0 = some s' := by
    unfold kFinish
    refine Option.map_eq_some_iff.mpr ⟨(s'.o_interpreter, s'.o_page, s'.o_sheet, s'.g_sheet_marks, s'.g_sheet_dots), ?_, rfl⟩
    rw [fin_0 hj hth]
  have hst := step_f kn ha (settle_id (by rw [hs']; exact hKn)) hFa.1 hj hfi
  refine ⟨s', hs', kRun.one hFa.1 (more_ok hL0) hst, ?_, ?_, ?_, by rw [hs']; rfl, by rw [hs']; rfl, by rw [hs']; exact kfG_refl s⟩
  · rw [hs']
    have hSh' : cSh T d k r s (mStopped m) := cSh_Q hSh (dkQ_refl _) rfl rfl rfl rfl
    exact ⟨hPg, hSh', hFo, hKn, hRa, hMa, hFl, hFa, hIt⟩
  · rw [hs']
    exact Or.inl ⟨⟨hm, rfl⟩, hn⟩
  · rw [hs']
    exact tk_acts (lv := lv) (s := s) (m := m) l2 hSd
theorem cpy_cpy (f g : Nat → Int32) (x : Nat) : va_cpy f (va_cpy f g 0 x 8) 0 x 8 = va_cpy f g 0 x 8 := by
  funext i
  unfold va_cpy
  split
  · rfl
  · rfl
/-- ESC inside a sequence that has said nothing: two rounds of the class, one byte of the reference -/
theorem st_A0 {N d k r cp T lv a z : Nat} {p : Nat → Nat} {s : CS} {m : RS} (hN : 2 ^ 22 < N) (hC : cCo N d k r cp T p s m) (hSd : cSd s m) (hPs : cPs s m) (hL : lvB lv a z 27 s) (hp : fd_mDesk_phase m.o_desk = 2 ∨ fd_mDesk_phase m.o_desk = 3) (hx : fd_Ref_xMany m.o_this = 0) :
    ∃ s1 s' m' e, kRun N 1 s s1 ∧ kRun N 1 s1 s' ∧ mByte N m (nI 27) = some (m', e) ∧ bRes N d T lv a s1 m s' m' e ∧ acT lv s s1 m ∧ s1.g_interpreter_at = s.g_interpreter_at ∧ s1.g_interpreter_ends = s.g_interpreter_ends ∧ s1.g_interpreter_called = s.g_interpreter_called ∧ s1.g_interpreter_copies = s.g_interpreter_copies ∧ s1.g_page_kept = s.g_page_kept ∧ s1.o_interpreter = s.o_interpreter ∧ kfG s s1 := by
  have hC0 := hC
  obtain ⟨hPg, hSh, hFo, hKn, hRa, hMa, hFl, hFa, hIt⟩ := hC
  obtain ⟨pd, pk, pr, pcp, pp, pok, pst, pdk, pd1, pd2⟩ := hPg
  obtain ⟨F, n, u, hS, hW, hCh⟩ := hFo
  have hch : chM N F m.g_shelf_pins m.g_shelf_ids m.g_shelf_wishes m.g_shelf_attributes m.g_shelf_permanent s.g_fonts_chosen := by
    rcases hCh with q | ⟨_, q⟩
    · rw [hKn] at q; exact absurd q (by decide)
    · exact q
  have hw : p 11 < 2 := by have := pok.2.2.2.2.2.2.2.2.2.2.2.1; omega
  obtain ⟨gl, own, lm, hpre, hgl⟩ := pre_byte (N := N) (b := 27) (by omega) hw (by omega) (pdk.2.2.2.2.2 11 (by omega)) hS hch
  have hPs' : psR s.o_interpreter_parser s.g_interpreter_parser_data (fs_mDesk_thrown m.o_desk 0) m.g_desk_other m.g_desk_store := hPs
  obtain ⟨hn, o', om', t1, t2, t3, t4, t5, t6, t7⟩ := tk_E (N := N) (g := m.g_desk_state) (gp := m.g_desk_page) (st := upd m.g_desk_steps (256 * p 11 + 27) own) (gg := m.g_desk_glyph) hPs' hp
  obtain ⟨s1, hs1, r1, r2, r3, r4, r5, r6, r7⟩ := st_again hN hC0 hSd hL hn t1 t2
  have hC1 : cCo N d k r cp T p s1 m := by
    rw [hs1]; exact ⟨⟨pd, pk, pr, pcp, pp, pok, pst, pdk, pd1, pd2⟩, hSh, ⟨F, n, u, hS, hW, hCh⟩, hKn, hRa, hMa, hFl, hFa, hIt⟩
  have hsa : fd_Macros_said s.o_macros = 0 := by
    obtain ⟨c, c1, c2, c3, c4⟩ := hSd
    have : c = 0 := (nI_eq (b := 0) (by omega) (by omega)).mp (c3.symm.trans hx)
    rw [c2, this]; rfl
  have hS1 : cSd s1 m := ⟨0, by omega, by rw [hs1]; rfl, hx, fun i hi => absurd hi (by omega), fun i hi => absurd hi (by omega), fun i hi => absurd hi (by omega)⟩
  have ac0 : s1.g_interpreter_actCount lv = 0 := by
    rw [hs1]
    show upd s.g_interpreter_actCount lv (fd_Macros_said s.o_macros) lv = 0
    unfold upd; rw [if_pos rfl, hsa]
  have an0 : s1.g_interpreter_actNext lv = 0 := by
    rw [hs1]
    show upd s.g_interpreter_actNext lv 0 lv = 0
    unfold upd; rw [if_pos rfl]
  have hL1 : lvB lv a z 27 s1 := by
    obtain ⟨l1, l2, l3, l4, l5, l6, l7, l8, l9⟩ := hL
    refine ⟨by rw [hs1]; exact l1, l2, by rw [ac0, an0]; decide, by rw [r5]; exact l4, by rw [r6]; exact l5, l6, l7, fun q => ?_, fun q => ?_⟩
    · rw [hs1]; exact l8 q
    · rw [hs1]; exact l9 q
  have ip : s1.o_interpreter_parser = o' := by rw [hs1]; rfl
  have idt : s1.g_interpreter_parser_data = s.g_interpreter_parser_data := by rw [hs1]; rfl
  have tk0 := tk_0 (N := N) (b := 27) (o := o') (gd := s.g_interpreter_parser_data) t2 (by omega)
  rw [if_pos rfl] at tk0
  have ht1 : ex_Parser_take N s1.o_interpreter_parser s1.g_interpreter_parser_data (nI 27) = some (fs_Parser_mode (fs_Parser_taken o' (nI 27)) 1, s1.g_interpreter_parser_data, 0) := by
    rw [ip, idt]; exact tk0
  obtain ⟨s2, hs2⟩ : ∃ s2, s2 = kPut s1 (upd s1.g_interpreter_at lv (nI (a + 1))) (fs_Parser_mode (fs_Parser_taken o' (nI 27)) 1) s1.g_interpreter_parser_data := ⟨_, rfl⟩
  have hk2 : kTk s2 lv = s2 := by
    refine kTk_id ?_ ?_ ?_ ?_ ?_
    · rw [hs2, hs1]; rfl
    · rw [hs2]; exact ac0
    · rw [hs2]; exact an0
    · rw [hs2, hs1]; exact cpy_cpy _ _ _
    · rw [hs2, hs1]; exact cpy_cpy _ _ _
  have hp1 : s1.o_page = pgC d k r cp p := by rw [hs1]; exact pp
  have hks : kPs s2 (pgC d k r cp p) s1.g_page_stack = s2 := by
    rw [← hp1, hs2]; rfl
  have ha : kAct N s2 0 = some s2 := by
    have := ka_do (N := N) (lv := lv) (s := s2) (x := s2) (v := 0) false (by decide) (by rw [if_neg (show ¬ ((0 : Int32) &&& 7 = 4) by decide)]; exact kd_no (K := 0) (by omega) (by omega)) (by rw [hs2]; exact hL1.1) hL1.2.1
    rw [this]; rfl
  have hQ : dkQ m.o_desk om' := dkQ_trans (show dkQ m.o_desk (fs_mDesk_thrown m.o_desk 0) from dkQ_refl _) t4
  have hen : enB (fs_mDesk_thrown m.o_desk 0) om' = true := by
    unfold enB
    rw [t5, decide_eq_true (show (1 : Int32) ≤ 1 by decide), Bool.and_true]
    refine decide_eq_true ?_
    show ¬ fd_mDesk_phase m.o_desk ≤ 1
    rcases hp with q | q <;> (rw [q]; decide)
  have hps : psR (fs_Parser_mode (fs_Parser_taken o' (nI 27)) 1) s1.g_interpreter_parser_data om' m.g_desk_other m.g_desk_store := Or.inr (Or.inl ⟨⟨rfl, t5⟩, t7⟩)
  have hst1 : stk p s1.g_page_stack := by rw [hs1]; exact pst
  rw [hs2] at ha
  obtain ⟨s', m', e, x1, x2, x3⟩ := st_P (e := true) (gk := s1.g_page_stack) (cp' := cp) (p' := p) (s2 := kPut s1 (upd s1.g_interpreter_at lv (nI (a + 1))) (fs_Parser_mode (fs_Parser_taken o' (nI 27)) 1) s1.g_interpreter_parser_data) hN hC1 hS1 hL1 hpre ht1 (by decide) ha (by rw [if_pos rfl, ← hs2, hks, hk2]) pcp pok hst1 t3 (dkP_Q hQ) t6 (Or.inl t7.1) (dkM_Q pdk hQ) hps hen
  exact ⟨s1, s', m', e, r1, x1, x2, x3, r4, r5, r6, by rw [hs1]; rfl, by rw [hs1]; rfl, by rw [hs1]; rfl, by rw [hs1]; rfl, r7⟩
def mTaken (s : RS) (g h : Nat → Int32) : RS := (((fs_Ref_xMany s.o_this 0, s.g_pages, s.g_fresh, s.g_shownPages, s.g_tape, s.g_seed, s.g_xWhat, s.g_xId, g, h, s.g_bytes2, s.g_bytes1), s.2.1, s.2.2.1, s.2.2.2.1, s.2.2.2.2.1, s.2.2.2.2.2.1, s.2.2.2.2.2.2.1, s.2.2.2.2.2.2.2.1, s.2.2.2.2.2.2.2.2.1, s.2.2.2.2.2.2.2.2.2) : RS)

theorem cp_2 {c : Nat} {o0 : ob_Ref} {w x : Nat → Int32} (hc : c ≤ 8) (ho : fd_Ref_xMany o0 = nI c) : ∀ (n k : Nat) (g h : Nat → Int32), k ≤ c → c - k < n → ∃ g' h', lp_Ref_work_c2_12 o0 w x n (nI k) g h = some (g', h') ∧ (∀ i, i < c → k ≤ i → g' (16 + i) = w i ∧ h' (16 + i) = x i) ∧ (∀ j, (j < 16 + k ∨ 16 + c ≤ j) → g' j = g j ∧ h' j = h j) := by
  intro n
  induction n with
  | zero => intro k g h hk hn; exact absurd hn (by omega)
  | succ n ih =>
    intro k g h hk hn
    rw [lp_Ref_work_c2_12, ho]
    by_cases q : c ≤ k
    · rw [if_pos (nI_le q (by omega))]
      exact ⟨g, h, rfl, fun i h1 h2 => absurd h1 (by omega), fun _ _ => ⟨rfl, rfl⟩⟩
    · have e1 : dk_in (nI k) 8 := dk_in_nI (by omega) (by omega)
      have e2 : (16 + nI k) = nI (16 + k) := nI_Ladd k 16
      have e3 : dk_in (nI (16 + k)) 24 := dk_in_nI (by omega) (by omega)
      have e4 : (nI (16 + k)).toNatClampNeg = 16 + k := nI_clamp (by omega)
      have e5 : (nI k).toNatClampNeg = k := nI_clamp (by omega)
      rw [if_neg (nI_ge (by omega) (by omega))]
      simp only [e2, if_pos e1, if_pos e3, dk_let]
      rw [e4, e5, nI_1]
      obtain ⟨g', h', f1, f2, f3⟩ := ih (k + 1) (upd g (16 + k) (w k)) (upd h (16 + k) (x k)) (by omega) (by omega)
      refine ⟨g', h', f1, fun i h1 h2 => ?_, fun j hj => ?_⟩
      · by_cases qi : i = k
        · obtain ⟨y1, y2⟩ := f3 (16 + i) (Or.inl (by omega))
          rw [y1, y2, qi]
          unfold upd
          rw [if_pos rfl, if_pos rfl]; exact ⟨rfl, rfl⟩
        · exact f2 i h1 (by omega)
      · obtain ⟨y1, y2⟩ := f3 j (by omega)
        rw [y1, y2]
        unfold upd
        rw [if_neg (by omega), if_neg (by omega)]; exact ⟨rfl, rfl⟩

def mActs2 (N c : Nat) : Nat → Nat → RS → Option RS
  | 0, _, _ => none
  | n + 1, k, s => if c ≤ k then some s else (if fd_Ref_fault s.o_this = 0 then (mMacro2 N s (s.g_toDo (16 + k)) (s.g_toDoId (16 + k))).bind (fun s1 => mActs2 N c n (k + 1) s1) else some s)

theorem acts_2 {N c : Nat} {o0 : ob_Ref} (hc : c ≤ 8) (ho : fd_Ref_xMany o0 = nI c) : ∀ (n k : Nat) (s s' : RS), k ≤ 8 → s.o_this = fs_Ref_xMany o0 0 → mActs2 N c n k s = some s' → ∃ r, lp_Ref_work_c2_59c2 N o0 (s.g_toDo, s.g_toDoId) n (nI k) s.o_macros s.g_macros_ids s.g_macros_permanent s.g_macros_lengths s.g_macros_store = some r ∧ s' = ((s.1, s.2.1, s.2.2.1, s.2.2.2.1, s.2.2.2.2.1, s.2.2.2.2.2.1, (r.1, r.2.1, r.2.2.1, r.2.2.2.1, r.2.2.2.2, s.g_macros_buffer), s.2.2.2.2.2.2.2.1, s.2.2.2.2.2.2.2.2.1, s.2.2.2.2.2.2.2.2.2) : RS) := by
  intro n
  induction n with
  | zero => intro k s s' hk hs h; exact absurd h (by intro q; cases q)
  | succ n ih =>
    intro k s s' hk hs h
    rw [mActs2] at h
    rw [lp_Ref_work_c2_59c2, ho]
    by_cases q : c ≤ k
    · rw [if_pos q] at h
      rw [if_pos (nI_le q (by omega))]
      have h' := Option.some.inj h
      subst h'
      exact ⟨_, rfl, rfl⟩
    · rw [if_neg q] at h
      rw [if_neg (nI_ge (by omega) (by omega))]
      have e2 : (16 + nI k) = nI (16 + k) := nI_Ladd k 16
      have e3 : dk_in (nI (16 + k)) 24 := dk_in_nI (by omega) (by omega)
      have e4 : (nI (16 + k)).toNatClampNeg = 16 + k := nI_clamp (by omega)
      by_cases q5 : fd_Ref_fault s.o_this = 0
      · rw [if_pos q5] at h
        rw [if_pos (show fd_Ref_fault o0 = 0 by rw [hs] at q5; exact q5)]
        obtain ⟨s1, e1, h⟩ := Option.bind_eq_some_iff.mp h
        unfold mMacro2 at e1
        obtain ⟨r1, f1, e1⟩ := Option.map_eq_some_iff.mp e1
        subst e1
        obtain ⟨r, g1, g2⟩ := ih (k + 1) _ _ (by omega) (by exact hs) h
        refine ⟨r, ?_, g2⟩
        simp only [e2, if_pos e3]
        rw [e4, nI_1]
        rw [hs] at f1
        exact (bind_eq f1).trans g1
      · rw [if_neg q5] at h
        rw [if_neg (show ¬ fd_Ref_fault o0 = 0 by rw [hs] at q5; exact q5)]
        have h' := Option.some.inj h
        subst h'
        exact ⟨_, rfl, rfl⟩

theorem work_2 {N c : Nat} {m : RS} (hN : 100 < N) (hc : c ≤ 8) (hx : fd_Ref_xMany m.o_this = nI c) : ∃ g h, (∀ i, i < c → g (16 + i) = m.g_xWhat i ∧ h (16 + i) = m.g_xId i) ∧ (∀ j, (j < 16 ∨ 16 + c ≤ j) → g j = m.g_toDo j ∧ h j = m.g_toDoId j) ∧ ∀ s', mActs2 N c N 0 (mTaken m g h) = some s' → mWork2 N m = some s' := by
  obtain ⟨g, h, f1, f2, f3⟩ := cp_2 (w := m.g_xWhat) (x := m.g_xId) hc hx N 0 m.g_toDo m.g_toDoId (by omega) (by omega)
  refine ⟨g, h, fun i hi => f2 i hi (by omega), fun j hj => f3 j (by omega), fun s' hs' => ?_⟩
  obtain ⟨r, g1, g2⟩ := acts_2 (o0 := m.o_this) hc hx N 0 (mTaken m g h) s' (by omega) rfl hs'
  unfold mWork2
  refine Option.map_eq_some_iff.mpr ⟨?w9, ?p9, ?q9⟩
  case p9 =>
    unfold ex_Ref_work_c2
    refine (bind_eq f1).trans ?_
    refine (bind_eq g1).trans ?_
    rfl
  case q9 => rw [g2]; rfl

theorem cp_1 {c : Nat} {o0 : ob_Ref} {w x : Nat → Int32} (hc : c ≤ 8) (ho : fd_Ref_xMany o0 = nI c) : ∀ (n k : Nat) (g h : Nat → Int32), k ≤ c → c - k < n → ∃ g' h', lp_Ref_work_c1_12 o0 w x n (nI k) g h = some (g', h') ∧ (∀ i, i < c → k ≤ i → g' (8 + i) = w i ∧ h' (8 + i) = x i) ∧ (∀ j, (j < 8 + k ∨ 8 + c ≤ j) → g' j = g j ∧ h' j = h j) := by
  intro n
  induction n with
  | zero => intro k g h hk hn; exact absurd hn (by omega)
  | succ n ih =>
    intro k g h hk hn
    rw [lp_Ref_work_c1_12, ho]
    by_cases q : c ≤ k
    · rw [if_pos (nI_le q (by omega))]
      exact ⟨g, h, rfl, fun i h1 h2 => absurd h1 (by omega), fun _ _ => ⟨rfl, rfl⟩⟩
    · have e1 : dk_in (nI k) 8 := dk_in_nI (by omega) (by omega)
      have e2 : (8 + nI k) = nI (8 + k) := nI_Ladd k 8
      have e3 : dk_in (nI (8 + k)) 24 := dk_in_nI (by omega) (by omega)
      have e4 : (nI (8 + k)).toNatClampNeg = 8 + k := nI_clamp (by omega)
      have e5 : (nI k).toNatClampNeg = k := nI_clamp (by omega)
      rw [if_neg (nI_ge (by omega) (by omega))]
      simp only [e2, if_pos e1, if_pos e3, dk_let]
      rw [e4, e5, nI_1]
      obtain ⟨g', h', f1, f2, f3⟩ := ih (k + 1) (upd g (8 + k) (w k)) (upd h (8 + k) (x k)) (by omega) (by omega)
      refine ⟨g', h', f1, fun i h1 h2 => ?_, fun j hj => ?_⟩
      · by_cases qi : i = k
        · obtain ⟨y1, y2⟩ := f3 (8 + i) (Or.inl (by omega))
          rw [y1, y2, qi]
          unfold upd
          rw [if_pos rfl, if_pos rfl]; exact ⟨rfl, rfl⟩
        · exact f2 i h1 (by omega)
      · obtain ⟨y1, y2⟩ := f3 j (by omega)
        rw [y1, y2]
        unfold upd
        rw [if_neg (by omega), if_neg (by omega)]; exact ⟨rfl, rfl⟩

def mActs1 (N c : Nat) : Nat → Nat → RS → Option RS
  | 0, _, _ => none
  | n + 1, k, s => if c ≤ k then some s else (if fd_Ref_fault s.o_this = 0 then (mMacro1 N s (s.g_toDo (8 + k)) (s.g_toDoId (8 + k))).bind (fun s1 => mActs1 N c n (k + 1) s1) else some s)

theorem acts_1 {N c : Nat} {o0 : ob_Ref} (hc : c ≤ 8) (ho : fd_Ref_xMany o0 = nI c) : ∀ (n k : Nat) (s s' : RS), k ≤ 8 → mActs1 N c n k s = some s' → ∃ r, lp_Ref_work_c1_59c2 N o0 7 14 2 s.n_sheet_dots s.g_lines_whiteRests s.g_lines_blackRests s.g_lines_whiteBlocks s.g_lines_blackBlocks s.g_lines_blocks s.g_lines_modes s.n_lines_out n (nI k) s.o_this s.g_toDo s.g_xWhat s.g_toDoId s.g_xId s.o_desk s.o_shelf s.o_macros s.o_sheet s.o_lines s.o_job s.g_pages s.g_seed s.g_fresh s.g_bytes2 s.g_macros_ids s.g_macros_permanent s.g_macros_lengths s.g_macros_store s.g_desk_state s.g_desk_kept s.g_desk_isKept s.g_desk_steps s.g_desk_glyph s.g_desk_page s.g_desk_other s.g_desk_store s.g_shelf_ids s.g_shelf_attributes s.g_shelf_permanent s.g_shelf_glyph s.g_shelf_store s.g_shelf_draft s.g_shelf_wishes s.g_shelf_pins s.g_shelf_coming s.g_shelf_bytes s.g_shelf_left s.g_sheet_dots s.g_lines_line s.g_lines_above s.g_lines_out s.g_job_file s.g_job_places s.g_job_lengths = some r ∧ s' = (((r.1, r.2.2.2.2.2.2.2.2.2.2.2.1, r.2.2.2.2.2.2.2.2.2.2.2.2.2.1, s.g_shownPages, s.g_tape, r.2.2.2.2.2.2.2.2.2.2.2.2.1, r.2.2.1, r.2.2.2.2.1, r.2.1, r.2.2.2.1, r.2.2.2.2.2.2.2.2.2.2.2.2.2.2.1, s.g_bytes1), (r.2.2.2.2.2.2.2.2.2.2.1, r.2.2.2.2.2.2.2.2.2.2.2.2.2.2.2.2.2.2.2.2.2.2.2.2.2.2.2.2.2.2.2.2.2.2.2.2.2.2.2.2.2.2.1, r.2.2.2.2.2.2.2.2.2.2.2.2.2.2.2.2.2.2.2.2.2.2.2.2.2.2.2.2.2.2.2.2.2.2.2.2.2.2.2.2.2.2.2.1, r.2.2.2.2.2.2.2.2.2.2.2.2.2.2.2.2.2.2.2.2.2.2.2.2.2.2.2.2.2.2.2.2.2.2.2.2.2.2.2.2.2.2.2.2), (r.2.2.2.2.2.2.2.2.2.1, s.n_lines_out, r.2.2.2.2.2.2.2.2.2.2.2.2.2.2.2.2.2.2.2.2.2.2.2.2.2.2.2.2.2.2.2.2.2.2.2.2.2.2.2.2.2.1, r.2.2.2.2.2.2.2.2.2.2.2.2.2.2.2.2.2.2.2.2.2.2.2.2.2.2.2.2.2.2.2.2.2.2.2.2.2.2.2.1, r.2.2.2.2.2.2.2.2.2.2.2.2.2.2.2.2.2.2.2.2.2.2.2.2.2.2.2.2.2.2.2.2.2.2.2.2.2.2.2.2.1, s.g_lines_whiteRests, s.g_lines_blackRests, s.g_lines_whiteBlocks, s.g_lines_blackBlocks, s.g_lines_blocks, s.g_lines_modes, s.g_lines_readAbove, s.g_lines_readLine), (r.2.2.2.2.2.2.2.2.1, s.n_sheet_dots, r.2.2.2.2.2.2.2.2.2.2.2.2.2.2.2.2.2.2.2.2.2.2.2.2.2.2.2.2.2.2.2.2.2.2.2.2.2.2.1), (r.2.2.2.2.2.1, r.2.2.2.2.2.2.2.2.2.2.2.2.2.2.2.2.2.2.2.1, r.2.2.2.2.2.2.2.2.2.2.2.2.2.2.2.2.2.2.2.2.2.1, r.2.2.2.2.2.2.2.2.2.2.2.2.2.2.2.2.2.2.2.2.2.2.1, r.2.2.2.2.2.2.2.2.2.2.2.2.2.2.2.2.2.2.2.2.2.2.2.2.2.2.1, r.2.2.2.2.2.2.2.2.2.2.2.2.2.2.2.2.2.2.2.2.2.2.2.2.1, r.2.2.2.2.2.2.2.2.2.2.2.2.2.2.2.2.2.2.2.2.2.2.2.2.2.1, r.2.2.2.2.2.2.2.2.2.2.2.2.2.2.2.2.2.2.2.2.2.2.2.1, r.2.2.2.2.2.2.2.2.2.2.2.2.2.2.2.2.2.2.2.2.1), (r.2.2.2.2.2.2.1, r.2.2.2.2.2.2.2.2.2.2.2.2.2.2.2.2.2.2.2.2.2.2.2.2.2.2.2.1, r.2.2.2.2.2.2.2.2.2.2.2.2.2.2.2.2.2.2.2.2.2.2.2.2.2.2.2.2.1, r.2.2.2.2.2.2.2.2.2.2.2.2.2.2.2.2.2.2.2.2.2.2.2.2.2.2.2.2.2.1, r.2.2.2.2.2.2.2.2.2.2.2.2.2.2.2.2.2.2.2.2.2.2.2.2.2.2.2.2.2.2.1, r.2.2.2.2.2.2.2.2.2.2.2.2.2.2.2.2.2.2.2.2.2.2.2.2.2.2.2.2.2.2.2.1, r.2.2.2.2.2.2.2.2.2.2.2.2.2.2.2.2.2.2.2.2.2.2.2.2.2.2.2.2.2.2.2.2.1, r.2.2.2.2.2.2.2.2.2.2.2.2.2.2.2.2.2.2.2.2.2.2.2.2.2.2.2.2.2.2.2.2.2.1, r.2.2.2.2.2.2.2.2.2.2.2.2.2.2.2.2.2.2.2.2.2.2.2.2.2.2.2.2.2.2.2.2.2.2.1, r.2.2.2.2.2.2.2.2.2.2.2.2.2.2.2.2.2.2.2.2.2.2.2.2.2.2.2.2.2.2.2.2.2.2.2.1, r.2.2.2.2.2.2.2.2.2.2.2.2.2.2.2.2.2.2.2.2.2.2.2.2.2.2.2.2.2.2.2.2.2.2.2.2.1, r.2.2.2.2.2.2.2.2.2.2.2.2.2.2.2.2.2.2.2.2.2.2.2.2.2.2.2.2.2.2.2.2.2.2.2.2.2.1), (r.2.2.2.2.2.2.2.1, r.2.2.2.2.2.2.2.2.2.2.2.2.2.2.2.1, r.2.2.2.2.2.2.2.2.2.2.2.2.2.2.2.2.1, r.2.2.2.2.2.2.2.2.2.2.2.2.2.2.2.2.2.1, r.2.2.2.2.2.2.2.2.2.2.2.2.2.2.2.2.2.2.1, s.g_macros_buffer), s.2.2.2.2.2.2.2.1, s.2.2.2.2.2.2.2.2.1, s.2.2.2.2.2.2.2.2.2) : RS) := by
  intro n
  induction n with
  | zero => intro k s s' hk h; exact absurd h (by intro q; cases q)
  | succ n ih =>
    intro k s s' hk h
    rw [mActs1] at h
    rw [lp_Ref_work_c1_59c2, ho]
    by_cases q : c ≤ k
    · rw [if_pos q] at h
      rw [if_pos (nI_le q (by omega))]
      have h' := Option.some.inj h
      subst h'
      exact ⟨_, rfl, rfl⟩
    · rw [if_neg q] at h
      rw [if_neg (nI_ge (by omega) (by omega))]
      have e2 : (8 + nI k) = nI (8 + k) := nI_Ladd k 8
      have e3 : dk_in (nI (8 + k)) 24 := dk_in_nI (by omega) (by omega)
      have e4 : (nI (8 + k)).toNatClampNeg = 8 + k := nI_clamp (by omega)
      by_cases q5 : fd_Ref_fault s.o_this = 0
      · rw [if_pos q5] at h
        rw [if_pos q5]
        obtain ⟨s1, e1, h⟩ := Option.bind_eq_some_iff.mp h
        unfold mMacro1 at e1
        obtain ⟨r1, f1, e1⟩ := Option.map_eq_some_iff.mp e1
        subst e1
        obtain ⟨r, g1, g2⟩ := ih (k + 1) _ _ (by omega) h
        refine ⟨r, ?_, g2⟩
        simp only [e2, if_pos e3]
        rw [e4, nI_1]
        skip
        exact (bind_eq f1).trans g1
      · rw [if_neg q5] at h
        rw [if_neg q5]
        have h' := Option.some.inj h
        subst h'
        exact ⟨_, rfl, rfl⟩

theorem work_1 {N c : Nat} {m : RS} (hN : 100 < N) (hc : c ≤ 8) (hx : fd_Ref_xMany m.o_this = nI c) : ∃ g h, (∀ i, i < c → g (8 + i) = m.g_xWhat i ∧ h (8 + i) = m.g_xId i) ∧ (∀ j, (j < 8 ∨ 8 + c ≤ j) → g j = m.g_toDo j ∧ h j = m.g_toDoId j) ∧ ∀ s', mActs1 N c N 0 (mTaken m g h) = some s' → mWork1 N m = some s' := by
  obtain ⟨g, h, f1, f2, f3⟩ := cp_1 (w := m.g_xWhat) (x := m.g_xId) hc hx N 0 m.g_toDo m.g_toDoId (by omega) (by omega)
  refine ⟨g, h, fun i hi => f2 i hi (by omega), fun j hj => f3 j (by omega), fun s' hs' => ?_⟩
  obtain ⟨r, g1, g2⟩ := acts_1 (o0 := m.o_this) hc hx N 0 (mTaken m g h) s' (by omega) hs'
  unfold mWork1
  refine Option.map_eq_some_iff.mpr ⟨?w9, ?p9, ?q9⟩
  case p9 =>
    unfold ex_Ref_work_c1
    refine (bind_eq f1).trans ?_
    refine (bind_eq g1).trans ?_
    rfl
  case q9 => rw [g2]; rfl

theorem cp_0 {c : Nat} {o0 : ob_Ref} {w x : Nat → Int32} (hc : c ≤ 8) (ho : fd_Ref_xMany o0 = nI c) : ∀ (n k : Nat) (g h : Nat → Int32), k ≤ c → c - k < n → ∃ g' h', lp_Ref_work_c0_12 o0 w x n (nI k) g h = some (g', h') ∧ (∀ i, i < c → k ≤ i → g' (0 + i) = w i ∧ h' (0 + i) = x i) ∧ (∀ j, (j < 0 + k ∨ 0 + c ≤ j) → g' j = g j ∧ h' j = h j) := by
  intro n
  induction n with
  | zero => intro k g h hk hn; exact absurd hn (by omega)
  | succ n ih =>
    intro k g h hk hn
    rw [lp_Ref_work_c0_12, ho]
    by_cases q : c ≤ k
    · rw [if_pos (nI_le q (by omega))]
      exact ⟨g, h, rfl, fun i h1 h2 => absurd h1 (by omega), fun _ _ => ⟨rfl, rfl⟩⟩
    · have e1 : dk_in (nI k) 8 := dk_in_nI (by omega) (by omega)
      have e2 : (0 + nI k) = nI (0 + k) := nI_Ladd k 0
      have e3 : dk_in (nI (0 + k)) 24 := dk_in_nI (by omega) (by omega)
      have e4 : (nI (0 + k)).toNatClampNeg = 0 + k := nI_clamp (by omega)
      have e5 : (nI k).toNatClampNeg = k := nI_clamp (by omega)
      rw [if_neg (nI_ge (by omega) (by omega))]
      simp only [e2, if_pos e1, if_pos e3, dk_let]
      rw [e4, e5, nI_1]
      obtain ⟨g', h', f1, f2, f3⟩ := ih (k + 1) (upd g (0 + k) (w k)) (upd h (0 + k) (x k)) (by omega) (by omega)
      refine ⟨g', h', f1, fun i h1 h2 => ?_, fun j hj => ?_⟩
      · by_cases qi : i = k
        · obtain ⟨y1, y2⟩ := f3 (0 + i) (Or.inl (by omega))
          rw [y1, y2, qi]
          unfold upd
          rw [if_pos rfl, if_pos rfl]; exact ⟨rfl, rfl⟩
        · exact f2 i h1 (by omega)
      · obtain ⟨y1, y2⟩ := f3 j (by omega)
        rw [y1, y2]
        unfold upd
        rw [if_neg (by omega), if_neg (by omega)]; exact ⟨rfl, rfl⟩

def mActs0 (N c : Nat) : Nat → Nat → RS → Option RS
  | 0, _, _ => none
  | n + 1, k, s => if c ≤ k then some s else (if fd_Ref_fault s.o_this = 0 then (mMacro0 N s (s.g_toDo (0 + k)) (s.g_toDoId (0 + k))).bind (fun s1 => mActs0 N c n (k + 1) s1) else some s)

theorem acts_0 {N c : Nat} {o0 : ob_Ref} (hc : c ≤ 8) (ho : fd_Ref_xMany o0 = nI c) : ∀ (n k : Nat) (s s' : RS), k ≤ 8 → mActs0 N c n k s = some s' → ∃ r, lp_Ref_work_c0_59c2 N o0 7 14 2 s.n_sheet_dots s.g_lines_whiteRests s.g_lines_blackRests s.g_lines_whiteBlocks s.g_lines_blackBlocks s.g_lines_blocks s.g_lines_modes s.n_lines_out n (nI k) s.o_this s.g_toDo s.g_xWhat s.g_toDoId s.g_xId s.o_desk s.o_shelf s.o_macros s.o_sheet s.o_lines s.o_job s.g_pages s.g_seed s.g_fresh s.g_bytes1 s.g_bytes2 s.g_macros_ids s.g_macros_permanent s.g_macros_lengths s.g_macros_store s.g_desk_state s.g_desk_kept s.g_desk_isKept s.g_desk_steps s.g_desk_glyph s.g_desk_page s.g_desk_other s.g_desk_store s.g_shelf_ids s.g_shelf_attributes s.g_shelf_permanent s.g_shelf_glyph s.g_shelf_store s.g_shelf_draft s.g_shelf_wishes s.g_shelf_pins s.g_shelf_coming s.g_shelf_bytes s.g_shelf_left s.g_sheet_dots s.g_lines_line s.g_lines_above s.g_lines_out s.g_job_file s.g_job_places s.g_job_lengths = some r ∧ s' = (((r.1, r.2.2.2.2.2.2.2.2.2.2.2.1, r.2.2.2.2.2.2.2.2.2.2.2.2.2.1, s.g_shownPages, s.g_tape, r.2.2.2.2.2.2.2.2.2.2.2.2.1, r.2.2.1, r.2.2.2.2.1, r.2.1, r.2.2.2.1, r.2.2.2.2.2.2.2.2.2.2.2.2.2.2.2.1, r.2.2.2.2.2.2.2.2.2.2.2.2.2.2.1), (r.2.2.2.2.2.2.2.2.2.2.1, r.2.2.2.2.2.2.2.2.2.2.2.2.2.2.2.2.2.2.2.2.2.2.2.2.2.2.2.2.2.2.2.2.2.2.2.2.2.2.2.2.2.2.2.1, r.2.2.2.2.2.2.2.2.2.2.2.2.2.2.2.2.2.2.2.2.2.2.2.2.2.2.2.2.2.2.2.2.2.2.2.2.2.2.2.2.2.2.2.2.1, r.2.2.2.2.2.2.2.2.2.2.2.2.2.2.2.2.2.2.2.2.2.2.2.2.2.2.2.2.2.2.2.2.2.2.2.2.2.2.2.2.2.2.2.2.2), (r.2.2.2.2.2.2.2.2.2.1, s.n_lines_out, r.2.2.2.2.2.2.2.2.2.2.2.2.2.2.2.2.2.2.2.2.2.2.2.2.2.2.2.2.2.2.2.2.2.2.2.2.2.2.2.2.2.2.1, r.2.2.2.2.2.2.2.2.2.2.2.2.2.2.2.2.2.2.2.2.2.2.2.2.2.2.2.2.2.2.2.2.2.2.2.2.2.2.2.2.1, r.2.2.2.2.2.2.2.2.2.2.2.2.2.2.2.2.2.2.2.2.2.2.2.2.2.2.2.2.2.2.2.2.2.2.2.2.2.2.2.2.2.1, s.g_lines_whiteRests, s.g_lines_blackRests, s.g_lines_whiteBlocks, s.g_lines_blackBlocks, s.g_lines_blocks, s.g_lines_modes, s.g_lines_readAbove, s.g_lines_readLine), (r.2.2.2.2.2.2.2.2.1, s.n_sheet_dots, r.2.2.2.2.2.2.2.2.2.2.2.2.2.2.2.2.2.2.2.2.2.2.2.2.2.2.2.2.2.2.2.2.2.2.2.2.2.2.2.1), (r.2.2.2.2.2.1, r.2.2.2.2.2.2.2.2.2.2.2.2.2.2.2.2.2.2.2.2.1, r.2.2.2.2.2.2.2.2.2.2.2.2.2.2.2.2.2.2.2.2.2.2.1, r.2.2.2.2.2.2.2.2.2.2.2.2.2.2.2.2.2.2.2.2.2.2.2.1, r.2.2.2.2.2.2.2.2.2.2.2.2.2.2.2.2.2.2.2.2.2.2.2.2.2.2.2.1, r.2.2.2.2.2.2.2.2.2.2.2.2.2.2.2.2.2.2.2.2.2.2.2.2.2.1, r.2.2.2.2.2.2.2.2.2.2.2.2.2.2.2.2.2.2.2.2.2.2.2.2.2.2.1, r.2.2.2.2.2.2.2.2.2.2.2.2.2.2.2.2.2.2.2.2.2.2.2.2.1, r.2.2.2.2.2.2.2.2.2.2.2.2.2.2.2.2.2.2.2.2.2.1), (r.2.2.2.2.2.2.1, r.2.2.2.2.2.2.2.2.2.2.2.2.2.2.2.2.2.2.2.2.2.2.2.2.2.2.2.2.1, r.2.2.2.2.2.2.2.2.2.2.2.2.2.2.2.2.2.2.2.2.2.2.2.2.2.2.2.2.2.1, r.2.2.2.2.2.2.2.2.2.2.2.2.2.2.2.2.2.2.2.2.2.2.2.2.2.2.2.2.2.2.1, r.2.2.2.2.2.2.2.2.2.2.2.2.2.2.2.2.2.2.2.2.2.2.2.2.2.2.2.2.2.2.2.1, r.2.2.2.2.2.2.2.2.2.2.2.2.2.2.2.2.2.2.2.2.2.2.2.2.2.2.2.2.2.2.2.2.1, r.2.2.2.2.2.2.2.2.2.2.2.2.2.2.2.2.2.2.2.2.2.2.2.2.2.2.2.2.2.2.2.2.2.1, r.2.2.2.2.2.2.2.2.2.2.2.2.2.2.2.2.2.2.2.2.2.2.2.2.2.2.2.2.2.2.2.2.2.2.1, r.2.2.2.2.2.2.2.2.2.2.2.2.2.2.2.2.2.2.2.2.2.2.2.2.2.2.2.2.2.2.2.2.2.2.2.1, r.2.2.2.2.2.2.2.2.2.2.2.2.2.2.2.2.2.2.2.2.2.2.2.2.2.2.2.2.2.2.2.2.2.2.2.2.1, r.2.2.2.2.2.2.2.2.2.2.2.2.2.2.2.2.2.2.2.2.2.2.2.2.2.2.2.2.2.2.2.2.2.2.2.2.2.1, r.2.2.2.2.2.2.2.2.2.2.2.2.2.2.2.2.2.2.2.2.2.2.2.2.2.2.2.2.2.2.2.2.2.2.2.2.2.2.1), (r.2.2.2.2.2.2.2.1, r.2.2.2.2.2.2.2.2.2.2.2.2.2.2.2.2.1, r.2.2.2.2.2.2.2.2.2.2.2.2.2.2.2.2.2.1, r.2.2.2.2.2.2.2.2.2.2.2.2.2.2.2.2.2.2.1, r.2.2.2.2.2.2.2.2.2.2.2.2.2.2.2.2.2.2.2.1, s.g_macros_buffer), s.2.2.2.2.2.2.2.1, s.2.2.2.2.2.2.2.2.1, s.2.2.2.2.2.2.2.2.2) : RS) := by
  intro n
  induction n with
  | zero => intro k s s' hk h; exact absurd h (by intro q; cases q)
  | succ n ih =>
    intro k s s' hk h
    rw [mActs0] at h
    rw [lp_Ref_work_c0_59c2, ho]
    by_cases q : c ≤ k
    · rw [if_pos q] at h
      rw [if_pos (nI_le q (by omega))]
      have h' := Option.some.inj h
      subst h'
      exact ⟨_, rfl, rfl⟩
    · rw [if_neg q] at h
      rw [if_neg (nI_ge (by omega) (by omega))]
      have e2 : (0 + nI k) = nI (0 + k) := nI_Ladd k 0
      have e3 : dk_in (nI (0 + k)) 24 := dk_in_nI (by omega) (by omega)
      have e4 : (nI (0 + k)).toNatClampNeg = 0 + k := nI_clamp (by omega)
      by_cases q5 : fd_Ref_fault s.o_this = 0
      · rw [if_pos q5] at h
        rw [if_pos q5]
        obtain ⟨s1, e1, h⟩ := Option.bind_eq_some_iff.mp h
        unfold mMacro0 at e1
        obtain ⟨r1, f1, e1⟩ := Option.map_eq_some_iff.mp e1
        subst e1
        obtain ⟨r, g1, g2⟩ := ih (k + 1) _ _ (by omega) h
        refine ⟨r, ?_, g2⟩
        simp only [e2, if_pos e3]
        rw [e4, nI_1]
        skip
        exact (bind_eq f1).trans g1
      · rw [if_neg q5] at h
        rw [if_neg q5]
        have h' := Option.some.inj h
        subst h'
        exact ⟨_, rfl, rfl⟩

theorem work_0 {N c : Nat} {m : RS} (hN : 100 < N) (hc : c ≤ 8) (hx : fd_Ref_xMany m.o_this = nI c) : ∃ g h, (∀ i, i < c → g (0 + i) = m.g_xWhat i ∧ h (0 + i) = m.g_xId i) ∧ (∀ j, (j < 0 ∨ 0 + c ≤ j) → g j = m.g_toDo j ∧ h j = m.g_toDoId j) ∧ ∀ s', mActs0 N c N 0 (mTaken m g h) = some s' → mWork0 N m = some s' := by
  obtain ⟨g, h, f1, f2, f3⟩ := cp_0 (w := m.g_xWhat) (x := m.g_xId) hc hx N 0 m.g_toDo m.g_toDoId (by omega) (by omega)
  refine ⟨g, h, fun i hi => f2 i hi (by omega), fun j hj => f3 j (by omega), fun s' hs' => ?_⟩
  obtain ⟨r, g1, g2⟩ := acts_0 (o0 := m.o_this) hc hx N 0 (mTaken m g h) s' (by omega) hs'
  unfold mWork0
  refine Option.map_eq_some_iff.mpr ⟨?w9, ?p9, ?q9⟩
  case p9 =>
    unfold ex_Ref_work_c0
    refine (bind_eq f1).trans ?_
    refine (bind_eq g1).trans ?_
    rfl
  case q9 => rw [g2]; rfl
def mMcs (s : RS) (om : ob_mMacros) (im tm lm bm : Nat → Int32) : RS := ((s.1, s.2.1, s.2.2.1, s.2.2.2.1, s.2.2.2.2.1, s.2.2.2.2.2.1, (om, im, tm, lm, bm, s.g_macros_buffer), s.2.2.2.2.2.2.2.1, s.2.2.2.2.2.2.2.2.1, s.2.2.2.2.2.2.2.2.2) : RS)

theorem mac_2 {N w : Nat} {s : RS} {v : Int32} {om : ob_mMacros} {im tm lm bm : Nat → Int32} (hw : w ≤ 32767) (w0 : w ≠ 0) (w2 : w ≠ 2) (w3 : w ≠ 3) (h : mMan N s.o_macros s.g_macros_ids s.g_macros_permanent s.g_macros_lengths s.g_macros_store (nI w) v = some (om, im, tm, lm, bm)) : mMacro2 N s (nI w) v = some (mMcs s om im tm lm bm) := by
  have ne : ∀ j : Nat, j ≤ 32767 → w ≠ j → ¬ nI w = nI j := fun j hj hne => mt (nI_eq (by omega) (by omega)).mp hne
  unfold mMan at h
  obtain ⟨u, hu, h⟩ := Option.bind_eq_some_iff.mp h
  unfold mMacro2
  refine Option.map_eq_some_iff.mpr ⟨(om, im, tm, lm, bm), ?p9, rfl⟩
  case p9 =>
    unfold ex_Ref_macro_c2
    refine (bind_eq hu).trans ?_
    rw [if_neg (show ¬ nI w = 0 from ne 0 (by omega) w0), if_neg (show ¬ nI w = 2 from ne 2 (by omega) w2), if_neg (show ¬ nI w = 3 from ne 3 (by omega) w3)]
    have goal : ∃ z, z = (om, im, tm, lm, bm) := ⟨_, rfl⟩
    by_cases q6 : nI w = 6
    · rw [if_pos q6] at h ⊢
      exact (bind_eq h).trans rfl
    rw [if_neg q6] at h ⊢
    by_cases q7 : nI w = 7
    · rw [if_pos q7] at h ⊢
      exact (bind_eq h).trans rfl
    rw [if_neg q7] at h ⊢
    by_cases qu : u < 0
    · rw [if_pos qu] at h ⊢
      rw [if_pos qu]
      obtain ⟨e1, e2⟩ := Prod.mk.inj (Option.some.inj h)
      obtain ⟨e2, e3⟩ := Prod.mk.inj e2
      obtain ⟨e3, e4⟩ := Prod.mk.inj e3
      obtain ⟨e4, e5⟩ := Prod.mk.inj e4
      rw [e1, e2, e3, e4, e5]
    rw [if_neg qu] at h ⊢
    by_cases q8 : nI w = 8
    · rw [if_pos q8] at h ⊢
      obtain ⟨x, hx, h⟩ := Option.bind_eq_some_iff.mp h
      refine (bind_eq hx).trans ?_
      obtain ⟨e1, e2⟩ := Prod.mk.inj (Option.some.inj h)
      obtain ⟨e2, e3⟩ := Prod.mk.inj e2
      obtain ⟨e3, e4⟩ := Prod.mk.inj e3
      obtain ⟨e4, e5⟩ := Prod.mk.inj e4
      rw [e1, e2, e3, e4, e5]
    rw [if_neg q8] at h ⊢
    rw [if_neg qu]
    by_cases q9 : nI w = 9
    · have n10 : ¬ nI w = 10 := by rw [q9]; decide
      rw [if_pos q9] at h ⊢
      rw [if_neg n10]
      by_cases qi : dk_in u 32
      · rw [if_pos qi] at h ⊢
        obtain ⟨e1, e2⟩ := Prod.mk.inj (Option.some.inj h)
        obtain ⟨e2, e3⟩ := Prod.mk.inj e2
        obtain ⟨e3, e4⟩ := Prod.mk.inj e3
        obtain ⟨e4, e5⟩ := Prod.mk.inj e4
        unfold dk_let
        rw [e1, e2, e3, e4, e5]
      · rw [if_neg qi] at h; exact absurd h (by intro z; cases z)
    rw [if_neg q9] at h ⊢
    by_cases q10 : nI w = 10
    · rw [if_pos q10] at h ⊢
      rw [if_pos q10]
      by_cases qi : dk_in u 32
      · rw [if_pos qi] at h ⊢
        obtain ⟨e1, e2⟩ := Prod.mk.inj (Option.some.inj h)
        obtain ⟨e2, e3⟩ := Prod.mk.inj e2
        obtain ⟨e3, e4⟩ := Prod.mk.inj e3
        obtain ⟨e4, e5⟩ := Prod.mk.inj e4
        unfold dk_let
        rw [e1, e2, e3, e4, e5]
      · rw [if_neg qi] at h; exact absurd h (by intro z; cases z)
    rw [if_neg q10] at h ⊢
    obtain ⟨e1, e2⟩ := Prod.mk.inj (Option.some.inj h)
    obtain ⟨e2, e3⟩ := Prod.mk.inj e2
    obtain ⟨e3, e4⟩ := Prod.mk.inj e3
    obtain ⟨e4, e5⟩ := Prod.mk.inj e4
    rw [e1, e2, e3, e4, e5]

theorem mac_1 {N w : Nat} {s : RS} {v : Int32} {om : ob_mMacros} {im tm lm bm : Nat → Int32} (hw : w ≤ 32767) (w0 : w ≠ 0) (w2 : w ≠ 2) (w3 : w ≠ 3) (h : mMan N s.o_macros s.g_macros_ids s.g_macros_permanent s.g_macros_lengths s.g_macros_store (nI w) v = some (om, im, tm, lm, bm)) : mMacro1 N s (nI w) v = some (mMcs s om im tm lm bm) := by
  have ne : ∀ j : Nat, j ≤ 32767 → w ≠ j → ¬ nI w = nI j := fun j hj hne => mt (nI_eq (by omega) (by omega)).mp hne
  unfold mMan at h
  obtain ⟨u, hu, h⟩ := Option.bind_eq_some_iff.mp h
  unfold mMacro1
  refine Option.map_eq_some_iff.mpr ⟨(s.o_this, om, im, lm, s.o_desk, s.o_shelf, s.o_sheet, s.o_lines, s.o_job, s.g_pages, s.g_seed, s.g_fresh, s.g_xWhat, s.g_xId, s.g_toDo, s.g_toDoId, s.g_bytes2, tm, bm, s.g_desk_state, s.g_desk_kept, s.g_desk_isKept, s.g_desk_steps, s.g_desk_glyph, s.g_desk_page, s.g_desk_other, s.g_desk_store, s.g_shelf_ids, s.g_shelf_attributes, s.g_shelf_permanent, s.g_shelf_glyph, s.g_shelf_store, s.g_shelf_draft, s.g_shelf_wishes, s.g_shelf_pins, s.g_shelf_coming, s.g_shelf_bytes, s.g_shelf_left, s.g_sheet_dots, s.g_lines_line, s.g_lines_above, s.g_lines_out, s.g_job_file, s.g_job_places, s.g_job_lengths), ?p9, rfl⟩
  case p9 =>
    unfold ex_Ref_macro_c1
    refine (bind_eq hu).trans ?_
    rw [if_neg (show ¬ nI w = 0 from ne 0 (by omega) w0), if_neg (show ¬ nI w = 2 from ne 2 (by omega) w2), if_neg (show ¬ nI w = 3 from ne 3 (by omega) w3)]
    have goal : ∃ z, z = (om, im, tm, lm, bm) := ⟨_, rfl⟩
    by_cases q6 : nI w = 6
    · rw [if_pos q6] at h ⊢
      exact (bind_eq h).trans rfl
    rw [if_neg q6] at h ⊢
    by_cases q7 : nI w = 7
    · rw [if_pos q7] at h ⊢
      exact (bind_eq h).trans rfl
    rw [if_neg q7] at h ⊢
    by_cases qu : u < 0
    · rw [if_pos qu] at h ⊢
      rw [if_pos qu]
      obtain ⟨e1, e2⟩ := Prod.mk.inj (Option.some.inj h)
      obtain ⟨e2, e3⟩ := Prod.mk.inj e2
      obtain ⟨e3, e4⟩ := Prod.mk.inj e3
      obtain ⟨e4, e5⟩ := Prod.mk.inj e4
      rw [e1, e2, e3, e4, e5]
    rw [if_neg qu] at h ⊢
    by_cases q8 : nI w = 8
    · rw [if_pos q8] at h ⊢
      obtain ⟨x, hx, h⟩ := Option.bind_eq_some_iff.mp h
      refine (bind_eq hx).trans ?_
      obtain ⟨e1, e2⟩ := Prod.mk.inj (Option.some.inj h)
      obtain ⟨e2, e3⟩ := Prod.mk.inj e2
      obtain ⟨e3, e4⟩ := Prod.mk.inj e3
      obtain ⟨e4, e5⟩ := Prod.mk.inj e4
      rw [e1, e2, e3, e4, e5]
    rw [if_neg q8] at h ⊢
    rw [if_neg qu]
    by_cases q9 : nI w = 9
    · have n10 : ¬ nI w = 10 := by rw [q9]; decide
      rw [if_pos q9] at h ⊢
      rw [if_neg n10]
      by_cases qi : dk_in u 32
      · rw [if_pos qi] at h ⊢
        obtain ⟨e1, e2⟩ := Prod.mk.inj (Option.some.inj h)
        obtain ⟨e2, e3⟩ := Prod.mk.inj e2
        obtain ⟨e3, e4⟩ := Prod.mk.inj e3
        obtain ⟨e4, e5⟩ := Prod.mk.inj e4
        unfold dk_let
        rw [e1, e2, e3, e4, e5]
      · rw [if_neg qi] at h; exact absurd h (by intro z; cases z)
    rw [if_neg q9] at h ⊢
    by_cases q10 : nI w = 10
    · rw [if_pos q10] at h ⊢
      rw [if_pos q10]
      by_cases qi : dk_in u 32
      · rw [if_pos qi] at h ⊢
        obtain ⟨e1, e2⟩ := Prod.mk.inj (Option.some.inj h)
        obtain ⟨e2, e3⟩ := Prod.mk.inj e2
        obtain ⟨e3, e4⟩ := Prod.mk.inj e3
        obtain ⟨e4, e5⟩ := Prod.mk.inj e4
        unfold dk_let
        rw [e1, e2, e3, e4, e5]
      · rw [if_neg qi] at h; exact absurd h (by intro z; cases z)
    rw [if_neg q10] at h ⊢
    obtain ⟨e1, e2⟩ := Prod.mk.inj (Option.some.inj h)
    obtain ⟨e2, e3⟩ := Prod.mk.inj e2
    obtain ⟨e3, e4⟩ := Prod.mk.inj e3
    obtain ⟨e4, e5⟩ := Prod.mk.inj e4
    rw [e1, e2, e3, e4, e5]

theorem mac_0 {N w : Nat} {s : RS} {v : Int32} {om : ob_mMacros} {im tm lm bm : Nat → Int32} (hw : w ≤ 32767) (w0 : w ≠ 0) (w2 : w ≠ 2) (w3 : w ≠ 3) (h : mMan N s.o_macros s.g_macros_ids s.g_macros_permanent s.g_macros_lengths s.g_macros_store (nI w) v = some (om, im, tm, lm, bm)) : mMacro0 N s (nI w) v = some (mMcs s om im tm lm bm) := by
  have ne : ∀ j : Nat, j ≤ 32767 → w ≠ j → ¬ nI w = nI j := fun j hj hne => mt (nI_eq (by omega) (by omega)).mp hne
  unfold mMan at h
  obtain ⟨u, hu, h⟩ := Option.bind_eq_some_iff.mp h
  unfold mMacro0
  refine Option.map_eq_some_iff.mpr ⟨(s.o_this, om, im, lm, s.o_desk, s.o_shelf, s.o_sheet, s.o_lines, s.o_job, s.g_pages, s.g_seed, s.g_fresh, s.g_xWhat, s.g_xId, s.g_toDo, s.g_toDoId, s.g_bytes1, s.g_bytes2, tm, bm, s.g_desk_state, s.g_desk_kept, s.g_desk_isKept, s.g_desk_steps, s.g_desk_glyph, s.g_desk_page, s.g_desk_other, s.g_desk_store, s.g_shelf_ids, s.g_shelf_attributes, s.g_shelf_permanent, s.g_shelf_glyph, s.g_shelf_store, s.g_shelf_draft, s.g_shelf_wishes, s.g_shelf_pins, s.g_shelf_coming, s.g_shelf_bytes, s.g_shelf_left, s.g_sheet_dots, s.g_lines_line, s.g_lines_above, s.g_lines_out, s.g_job_file, s.g_job_places, s.g_job_lengths), ?p9, rfl⟩
  case p9 =>
    unfold ex_Ref_macro_c0
    refine (bind_eq hu).trans ?_
    rw [if_neg (show ¬ nI w = 0 from ne 0 (by omega) w0), if_neg (show ¬ nI w = 2 from ne 2 (by omega) w2), if_neg (show ¬ nI w = 3 from ne 3 (by omega) w3)]
    have goal : ∃ z, z = (om, im, tm, lm, bm) := ⟨_, rfl⟩
    by_cases q6 : nI w = 6
    · rw [if_pos q6] at h ⊢
      exact (bind_eq h).trans rfl
    rw [if_neg q6] at h ⊢
    by_cases q7 : nI w = 7
    · rw [if_pos q7] at h ⊢
      exact (bind_eq h).trans rfl
    rw [if_neg q7] at h ⊢
    by_cases qu : u < 0
    · rw [if_pos qu] at h ⊢
      rw [if_pos qu]
      obtain ⟨e1, e2⟩ := Prod.mk.inj (Option.some.inj h)
      obtain ⟨e2, e3⟩ := Prod.mk.inj e2
      obtain ⟨e3, e4⟩ := Prod.mk.inj e3
      obtain ⟨e4, e5⟩ := Prod.mk.inj e4
      rw [e1, e2, e3, e4, e5]
    rw [if_neg qu] at h ⊢
    by_cases q8 : nI w = 8
    · rw [if_pos q8] at h ⊢
      obtain ⟨x, hx, h⟩ := Option.bind_eq_some_iff.mp h
      refine (bind_eq hx).trans ?_
      obtain ⟨e1, e2⟩ := Prod.mk.inj (Option.some.inj h)
      obtain ⟨e2, e3⟩ := Prod.mk.inj e2
      obtain ⟨e3, e4⟩ := Prod.mk.inj e3
      obtain ⟨e4, e5⟩ := Prod.mk.inj e4
      rw [e1, e2, e3, e4, e5]
    rw [if_neg q8] at h ⊢
    rw [if_neg qu]
    by_cases q9 : nI w = 9
    · have n10 : ¬ nI w = 10 := by rw [q9]; decide
      rw [if_pos q9] at h ⊢
      rw [if_neg n10]
      by_cases qi : dk_in u 32
      · rw [if_pos qi] at h ⊢
        obtain ⟨e1, e2⟩ := Prod.mk.inj (Option.some.inj h)
        obtain ⟨e2, e3⟩ := Prod.mk.inj e2
        obtain ⟨e3, e4⟩ := Prod.mk.inj e3
        obtain ⟨e4, e5⟩ := Prod.mk.inj e4
        unfold dk_let
        rw [e1, e2, e3, e4, e5]
      · rw [if_neg qi] at h; exact absurd h (by intro z; cases z)
    rw [if_neg q9] at h ⊢
    by_cases q10 : nI w = 10
    · rw [if_pos q10] at h ⊢
      rw [if_pos q10]
      by_cases qi : dk_in u 32
      · rw [if_pos qi] at h ⊢
        obtain ⟨e1, e2⟩ := Prod.mk.inj (Option.some.inj h)
        obtain ⟨e2, e3⟩ := Prod.mk.inj e2
        obtain ⟨e3, e4⟩ := Prod.mk.inj e3
        obtain ⟨e4, e5⟩ := Prod.mk.inj e4
        unfold dk_let
        rw [e1, e2, e3, e4, e5]
      · rw [if_neg qi] at h; exact absurd h (by intro z; cases z)
    rw [if_neg q10] at h ⊢
    obtain ⟨e1, e2⟩ := Prod.mk.inj (Option.some.inj h)
    obtain ⟨e2, e3⟩ := Prod.mk.inj e2
    obtain ⟨e3, e4⟩ := Prod.mk.inj e3
    obtain ⟨e4, e5⟩ := Prod.mk.inj e4
    rw [e1, e2, e3, e4, e5]
theorem mac_z2 {N : Nat} {s : RS} {v u : Int32} (hu : ex_mMacros_find N s.o_macros s.g_macros_ids v = some u) : mMacro2 N s (nI 0) v = some s := by
  unfold mMacro2
  refine Option.map_eq_some_iff.mpr ⟨(s.o_macros, s.g_macros_ids, s.g_macros_permanent, s.g_macros_lengths, s.g_macros_store), ?_, rfl⟩
  unfold ex_Ref_macro_c2
  refine (bind_eq hu).trans ?_
  rw [if_pos (show nI 0 = 0 from rfl), if_neg (show ¬ nI 0 = 2 by decide), if_neg (show ¬ nI 0 = 3 by decide), if_neg (show ¬ nI 0 = 6 by decide), if_neg (show ¬ nI 0 = 7 by decide)]
  by_cases qu : u < 0
  · rw [if_pos qu, if_pos qu]
  · rw [if_neg qu, if_neg (show ¬ nI 0 = 8 by decide), if_neg qu, if_neg (show ¬ nI 0 = 9 by decide), if_neg (show ¬ nI 0 = 10 by decide)]

theorem mac_z1 {N : Nat} {s : RS} {v u : Int32} (hu : ex_mMacros_find N s.o_macros s.g_macros_ids v = some u) : mMacro1 N s (nI 0) v = some s := by
  unfold mMacro1
  refine Option.map_eq_some_iff.mpr ⟨(s.o_this, s.o_macros, s.g_macros_ids, s.g_macros_lengths, s.o_desk, s.o_shelf, s.o_sheet, s.o_lines, s.o_job, s.g_pages, s.g_seed, s.g_fresh, s.g_xWhat, s.g_xId, s.g_toDo, s.g_toDoId, s.g_bytes2, s.g_macros_permanent, s.g_macros_store, s.g_desk_state, s.g_desk_kept, s.g_desk_isKept, s.g_desk_steps, s.g_desk_glyph, s.g_desk_page, s.g_desk_other, s.g_desk_store, s.g_shelf_ids, s.g_shelf_attributes, s.g_shelf_permanent, s.g_shelf_glyph, s.g_shelf_store, s.g_shelf_draft, s.g_shelf_wishes, s.g_shelf_pins, s.g_shelf_coming, s.g_shelf_bytes, s.g_shelf_left, s.g_sheet_dots, s.g_lines_line, s.g_lines_above, s.g_lines_out, s.g_job_file, s.g_job_places, s.g_job_lengths), ?_, rfl⟩
  unfold ex_Ref_macro_c1
  refine (bind_eq hu).trans ?_
  rw [if_pos (show nI 0 = 0 from rfl), if_neg (show ¬ nI 0 = 2 by decide), if_neg (show ¬ nI 0 = 3 by decide), if_neg (show ¬ nI 0 = 6 by decide), if_neg (show ¬ nI 0 = 7 by decide)]
  by_cases qu : u < 0
  · rw [if_pos qu, if_pos qu]
  · rw [if_neg qu, if_neg (show ¬ nI 0 = 8 by decide), if_neg qu, if_neg (show ¬ nI 0 = 9 by decide), if_neg (show ¬ nI 0 = 10 by decide)]

theorem mac_n2_2 {N : Nat} {s : RS} {v u : Int32} (hu : ex_mMacros_find N s.o_macros s.g_macros_ids v = some u) : mMacro2 N s (nI 2) v = some s := by
  unfold mMacro2
  refine Option.map_eq_some_iff.mpr ⟨(s.o_macros, s.g_macros_ids, s.g_macros_permanent, s.g_macros_lengths, s.g_macros_store), ?_, rfl⟩
  unfold ex_Ref_macro_c2
  refine (bind_eq hu).trans ?_
  rw [if_neg (show ¬ nI 2 = 0 by decide), if_pos (show nI 2 = 2 from rfl), ite_self]

theorem mac_n2_3 {N : Nat} {s : RS} {v u : Int32} (hu : ex_mMacros_find N s.o_macros s.g_macros_ids v = some u) : mMacro2 N s (nI 3) v = some s := by
  unfold mMacro2
  refine Option.map_eq_some_iff.mpr ⟨(s.o_macros, s.g_macros_ids, s.g_macros_permanent, s.g_macros_lengths, s.g_macros_store), ?_, rfl⟩
  unfold ex_Ref_macro_c2
  refine (bind_eq hu).trans ?_
  rw [if_neg (show ¬ nI 3 = 0 by decide), if_neg (show ¬ nI 3 = 2 by decide), if_pos (show nI 3 = 3 from rfl), ite_self]

theorem mac_b0 {N : Nat} {s : RS} {v u : Int32} {om : ob_mMacros} {im tm lm bm : Nat → Int32} (hu : ex_mMacros_find N s.o_macros s.g_macros_ids v = some u) (hb : ex_mMacros_begin N s.o_macros s.g_macros_ids s.g_macros_permanent s.g_macros_lengths s.g_macros_store v = some (om, im, tm, lm, bm)) : mMacro0 N s (nI 0) v = some (mMcs s om im tm lm bm) := by
  unfold mMacro0
  refine Option.map_eq_some_iff.mpr ⟨(s.o_this, om, im, lm, s.o_desk, s.o_shelf, s.o_sheet, s.o_lines, s.o_job, s.g_pages, s.g_seed, s.g_fresh, s.g_xWhat, s.g_xId, s.g_toDo, s.g_toDoId, s.g_bytes1, s.g_bytes2, tm, bm, s.g_desk_state, s.g_desk_kept, s.g_desk_isKept, s.g_desk_steps, s.g_desk_glyph, s.g_desk_page, s.g_desk_other, s.g_desk_store, s.g_shelf_ids, s.g_shelf_attributes, s.g_shelf_permanent, s.g_shelf_glyph, s.g_shelf_store, s.g_shelf_draft, s.g_shelf_wishes, s.g_shelf_pins, s.g_shelf_coming, s.g_shelf_bytes, s.g_shelf_left, s.g_sheet_dots, s.g_lines_line, s.g_lines_above, s.g_lines_out, s.g_job_file, s.g_job_places, s.g_job_lengths), ?_, rfl⟩
  unfold ex_Ref_macro_c0
  refine (bind_eq hu).trans ?_
  rw [if_pos (show nI 0 = 0 from rfl)]
  exact (bind_eq hb).trans rfl

theorem mac_r1_2 {N : Nat} {s s' : RS} {v : Int32} {j : Nat} (hj : j < 32) (hu : ex_mMacros_find N s.o_macros s.g_macros_ids v = some (nI j)) (hl : ¬ (65536 : Int32) < fd_Ref_had s.o_this + s.g_macros_lengths j) (hr : mRun1 N s (nI j) 0 = some s') : mMacro1 N s (nI 2) v = some s' := by
  unfold mRun1 at hr
  obtain ⟨r, f, e⟩ := Option.map_eq_some_iff.mp hr
  subst e
  have e1 : dk_in (nI j) 32 := dk_in_nI (by omega) (by omega)
  have e2 : (nI j).toNatClampNeg = j := nI_clamp (by omega)
  unfold mMacro1
  refine Option.map_eq_some_iff.mpr ⟨(r.1, r.2.2.1, r.2.2.2.2.2.2.2.2.2.2.2.2.2.2.2.2.2.2.2.2.2.2.2.1, r.2.2.2.1, r.2.2.2.2.2.1, r.2.2.2.2.2.2.1, r.2.2.2.2.2.2.2.1, r.2.2.2.2.2.2.2.2.1, r.2.2.2.2.2.2.2.2.2.1, r.2.2.2.2.2.2.2.2.2.2.1, r.2.2.2.2.2.2.2.2.2.2.2.1, r.2.2.2.2.2.2.2.2.2.2.2.2.1, r.2.2.2.2.2.2.2.2.2.2.2.2.2.1, r.2.2.2.2.2.2.2.2.2.2.2.2.2.2.1, r.2.2.2.2.2.2.2.2.2.2.2.2.2.2.2.1, r.2.2.2.2.2.2.2.2.2.2.2.2.2.2.2.2.1, r.2.1, r.2.2.2.2.2.2.2.2.2.2.2.2.2.2.2.2.2.2.2.2.2.2.2.2.1, r.2.2.2.2.1, r.2.2.2.2.2.2.2.2.2.2.2.2.2.2.2.2.2.1, r.2.2.2.2.2.2.2.2.2.2.2.2.2.2.2.2.2.2.2.2.2.2.2.2.2.2.2.2.2.2.2.2.2.2.2.2.2.2.2.2.2.2.2.1, r.2.2.2.2.2.2.2.2.2.2.2.2.2.2.2.2.2.2.2.2.2.2.2.2.2.2.2.2.2.2.2.2.2.2.2.2.2.2.2.2.2.2.2.2, r.2.2.2.2.2.2.2.2.2.2.2.2.2.2.2.2.2.2.1, r.2.2.2.2.2.2.2.2.2.2.2.2.2.2.2.2.2.2.2.1, r.2.2.2.2.2.2.2.2.2.2.2.2.2.2.2.2.2.2.2.2.1, r.2.2.2.2.2.2.2.2.2.2.2.2.2.2.2.2.2.2.2.2.2.1, r.2.2.2.2.2.2.2.2.2.2.2.2.2.2.2.2.2.2.2.2.2.2.1, r.2.2.2.2.2.2.2.2.2.2.2.2.2.2.2.2.2.2.2.2.2.2.2.2.2.1, r.2.2.2.2.2.2.2.2.2.2.2.2.2.2.2.2.2.2.2.2.2.2.2.2.2.2.1, r.2.2.2.2.2.2.2.2.2.2.2.2.2.2.2.2.2.2.2.2.2.2.2.2.2.2.2.1, r.2.2.2.2.2.2.2.2.2.2.2.2.2.2.2.2.2.2.2.2.2.2.2.2.2.2.2.2.1, r.2.2.2.2.2.2.2.2.2.2.2.2.2.2.2.2.2.2.2.2.2.2.2.2.2.2.2.2.2.1, r.2.2.2.2.2.2.2.2.2.2.2.2.2.2.2.2.2.2.2.2.2.2.2.2.2.2.2.2.2.2.1, r.2.2.2.2.2.2.2.2.2.2.2.2.2.2.2.2.2.2.2.2.2.2.2.2.2.2.2.2.2.2.2.1, r.2.2.2.2.2.2.2.2.2.2.2.2.2.2.2.2.2.2.2.2.2.2.2.2.2.2.2.2.2.2.2.2.1, r.2.2.2.2.2.2.2.2.2.2.2.2.2.2.2.2.2.2.2.2.2.2.2.2.2.2.2.2.2.2.2.2.2.1, r.2.2.2.2.2.2.2.2.2.2.2.2.2.2.2.2.2.2.2.2.2.2.2.2.2.2.2.2.2.2.2.2.2.2.1, r.2.2.2.2.2.2.2.2.2.2.2.2.2.2.2.2.2.2.2.2.2.2.2.2.2.2.2.2.2.2.2.2.2.2.2.1, r.2.2.2.2.2.2.2.2.2.2.2.2.2.2.2.2.2.2.2.2.2.2.2.2.2.2.2.2.2.2.2.2.2.2.2.2.1, r.2.2.2.2.2.2.2.2.2.2.2.2.2.2.2.2.2.2.2.2.2.2.2.2.2.2.2.2.2.2.2.2.2.2.2.2.2.1, r.2.2.2.2.2.2.2.2.2.2.2.2.2.2.2.2.2.2.2.2.2.2.2.2.2.2.2.2.2.2.2.2.2.2.2.2.2.2.1, r.2.2.2.2.2.2.2.2.2.2.2.2.2.2.2.2.2.2.2.2.2.2.2.2.2.2.2.2.2.2.2.2.2.2.2.2.2.2.2.1, r.2.2.2.2.2.2.2.2.2.2.2.2.2.2.2.2.2.2.2.2.2.2.2.2.2.2.2.2.2.2.2.2.2.2.2.2.2.2.2.2.1, r.2.2.2.2.2.2.2.2.2.2.2.2.2.2.2.2.2.2.2.2.2.2.2.2.2.2.2.2.2.2.2.2.2.2.2.2.2.2.2.2.2.1, r.2.2.2.2.2.2.2.2.2.2.2.2.2.2.2.2.2.2.2.2.2.2.2.2.2.2.2.2.2.2.2.2.2.2.2.2.2.2.2.2.2.2.1), ?p9, rfl⟩
  case p9 =>
    unfold ex_Ref_macro_c1
    refine (bind_eq hu).trans ?_
    rw [if_neg (show ¬ nI 2 = 0 by decide), if_pos (show nI 2 = 2 from rfl), if_neg (show ¬ nI j < 0 from nI_nlt (b := 0) (by omega) (by omega)), if_pos e1, e2, if_neg hl, if_neg (show ¬ nI 2 = 3 by decide)]
    exact (bind_eq f).trans rfl
theorem mac_f1_2 {N : Nat} {s : RS} {v : Int32} {u : Int32} (hu : ex_mMacros_find N s.o_macros s.g_macros_ids v = some u) (hl : u < 0 ∨ ∃ j, j < 32 ∧ u = nI j ∧ (65536 : Int32) < fd_Ref_had s.o_this + s.g_macros_lengths j) : mMacro1 N s (nI 2) v = some s := by
  unfold mMacro1
  refine Option.map_eq_some_iff.mpr ⟨(s.o_this, s.o_macros, s.g_macros_ids, s.g_macros_lengths, s.o_desk, s.o_shelf, s.o_sheet, s.o_lines, s.o_job, s.g_pages, s.g_seed, s.g_fresh, s.g_xWhat, s.g_xId, s.g_toDo, s.g_toDoId, s.g_bytes2, s.g_macros_permanent, s.g_macros_store, s.g_desk_state, s.g_desk_kept, s.g_desk_isKept, s.g_desk_steps, s.g_desk_glyph, s.g_desk_page, s.g_desk_other, s.g_desk_store, s.g_shelf_ids, s.g_shelf_attributes, s.g_shelf_permanent, s.g_shelf_glyph, s.g_shelf_store, s.g_shelf_draft, s.g_shelf_wishes, s.g_shelf_pins, s.g_shelf_coming, s.g_shelf_bytes, s.g_shelf_left, s.g_sheet_dots, s.g_lines_line, s.g_lines_above, s.g_lines_out, s.g_job_file, s.g_job_places, s.g_job_lengths), ?_, rfl⟩
  unfold ex_Ref_macro_c1
  refine (bind_eq hu).trans ?_
  rw [if_neg (show ¬ nI 2 = 0 by decide), if_pos (show nI 2 = 2 from rfl)]
  rcases hl with q | ⟨j, hj, q, hl⟩
  · rw [if_pos q]
  · subst q
    have e1 : dk_in (nI j) 32 := dk_in_nI (by omega) (by omega)
    have e2 : (nI j).toNatClampNeg = j := nI_clamp (by omega)
    rw [if_neg (show ¬ nI j < 0 from nI_nlt (b := 0) (by omega) (by omega)), if_pos e1, e2, if_pos hl]

theorem mac_r1_3 {N : Nat} {s s' : RS} {v : Int32} {j : Nat} (hj : j < 32) (hu : ex_mMacros_find N s.o_macros s.g_macros_ids v = some (nI j)) (hl : ¬ (65536 : Int32) < fd_Ref_had s.o_this + s.g_macros_lengths j) (hr : mRun1 N s (nI j) 1 = some s') : mMacro1 N s (nI 3) v = some s' := by
  unfold mRun1 at hr
  obtain ⟨r, f, e⟩ := Option.map_eq_some_iff.mp hr
  subst e
  have e1 : dk_in (nI j) 32 := dk_in_nI (by omega) (by omega)
  have e2 : (nI j).toNatClampNeg = j := nI_clamp (by omega)
  unfold mMacro1
  refine Option.map_eq_some_iff.mpr ⟨(r.1, r.2.2.1, r.2.2.2.2.2.2.2.2.2.2.2.2.2.2.2.2.2.2.2.2.2.2.2.1, r.2.2.2.1, r.2.2.2.2.2.1, r.2.2.2.2.2.2.1, r.2.2.2.2.2.2.2.1, r.2.2.2.2.2.2.2.2.1, r.2.2.2.2.2.2.2.2.2.1, r.2.2.2.2.2.2.2.2.2.2.1, r.2.2.2.2.2.2.2.2.2.2.2.1, r.2.2.2.2.2.2.2.2.2.2.2.2.1, r.2.2.2.2.2.2.2.2.2.2.2.2.2.1, r.2.2.2.2.2.2.2.2.2.2.2.2.2.2.1, r.2.2.2.2.2.2.2.2.2.2.2.2.2.2.2.1, r.2.2.2.2.2.2.2.2.2.2.2.2.2.2.2.2.1, r.2.1, r.2.2.2.2.2.2.2.2.2.2.2.2.2.2.2.2.2.2.2.2.2.2.2.2.1, r.2.2.2.2.1, r.2.2.2.2.2.2.2.2.2.2.2.2.2.2.2.2.2.1, r.2.2.2.2.2.2.2.2.2.2.2.2.2.2.2.2.2.2.2.2.2.2.2.2.2.2.2.2.2.2.2.2.2.2.2.2.2.2.2.2.2.2.2.1, r.2.2.2.2.2.2.2.2.2.2.2.2.2.2.2.2.2.2.2.2.2.2.2.2.2.2.2.2.2.2.2.2.2.2.2.2.2.2.2.2.2.2.2.2, r.2.2.2.2.2.2.2.2.2.2.2.2.2.2.2.2.2.2.1, r.2.2.2.2.2.2.2.2.2.2.2.2.2.2.2.2.2.2.2.1, r.2.2.2.2.2.2.2.2.2.2.2.2.2.2.2.2.2.2.2.2.1, r.2.2.2.2.2.2.2.2.2.2.2.2.2.2.2.2.2.2.2.2.2.1, r.2.2.2.2.2.2.2.2.2.2.2.2.2.2.2.2.2.2.2.2.2.2.1, r.2.2.2.2.2.2.2.2.2.2.2.2.2.2.2.2.2.2.2.2.2.2.2.2.2.1, r.2.2.2.2.2.2.2.2.2.2.2.2.2.2.2.2.2.2.2.2.2.2.2.2.2.2.1, r.2.2.2.2.2.2.2.2.2.2.2.2.2.2.2.2.2.2.2.2.2.2.2.2.2.2.2.1, r.2.2.2.2.2.2.2.2.2.2.2.2.2.2.2.2.2.2.2.2.2.2.2.2.2.2.2.2.1, r.2.2.2.2.2.2.2.2.2.2.2.2.2.2.2.2.2.2.2.2.2.2.2.2.2.2.2.2.2.1, r.2.2.2.2.2.2.2.2.2.2.2.2.2.2.2.2.2.2.2.2.2.2.2.2.2.2.2.2.2.2.1, r.2.2.2.2.2.2.2.2.2.2.2.2.2.2.2.2.2.2.2.2.2.2.2.2.2.2.2.2.2.2.2.1, r.2.2.2.2.2.2.2.2.2.2.2.2.2.2.2.2.2.2.2.2.2.2.2.2.2.2.2.2.2.2.2.2.1, r.2.2.2.2.2.2.2.2.2.2.2.2.2.2.2.2.2.2.2.2.2.2.2.2.2.2.2.2.2.2.2.2.2.1, r.2.2.2.2.2.2.2.2.2.2.2.2.2.2.2.2.2.2.2.2.2.2.2.2.2.2.2.2.2.2.2.2.2.2.1, r.2.2.2.2.2.2.2.2.2.2.2.2.2.2.2.2.2.2.2.2.2.2.2.2.2.2.2.2.2.2.2.2.2.2.2.1, r.2.2.2.2.2.2.2.2.2.2.2.2.2.2.2.2.2.2.2.2.2.2.2.2.2.2.2.2.2.2.2.2.2.2.2.2.1, r.2.2.2.2.2.2.2.2.2.2.2.2.2.2.2.2.2.2.2.2.2.2.2.2.2.2.2.2.2.2.2.2.2.2.2.2.2.1, r.2.2.2.2.2.2.2.2.2.2.2.2.2.2.2.2.2.2.2.2.2.2.2.2.2.2.2.2.2.2.2.2.2.2.2.2.2.2.1, r.2.2.2.2.2.2.2.2.2.2.2.2.2.2.2.2.2.2.2.2.2.2.2.2.2.2.2.2.2.2.2.2.2.2.2.2.2.2.2.1, r.2.2.2.2.2.2.2.2.2.2.2.2.2.2.2.2.2.2.2.2.2.2.2.2.2.2.2.2.2.2.2.2.2.2.2.2.2.2.2.2.1, r.2.2.2.2.2.2.2.2.2.2.2.2.2.2.2.2.2.2.2.2.2.2.2.2.2.2.2.2.2.2.2.2.2.2.2.2.2.2.2.2.2.1, r.2.2.2.2.2.2.2.2.2.2.2.2.2.2.2.2.2.2.2.2.2.2.2.2.2.2.2.2.2.2.2.2.2.2.2.2.2.2.2.2.2.2.1), ?p9, rfl⟩
  case p9 =>
    unfold ex_Ref_macro_c1
    refine (bind_eq hu).trans ?_
    rw [if_neg (show ¬ nI 3 = 0 by decide), if_neg (show ¬ nI 3 = 2 by decide), if_pos (show nI 3 = 3 from rfl), if_neg (show ¬ nI j < 0 from nI_nlt (b := 0) (by omega) (by omega)), if_pos e1, e2, if_neg hl, if_pos (show nI 3 = 3 from rfl)]
    exact (bind_eq f).trans rfl
theorem mac_f1_3 {N : Nat} {s : RS} {v : Int32} {u : Int32} (hu : ex_mMacros_find N s.o_macros s.g_macros_ids v = some u) (hl : u < 0 ∨ ∃ j, j < 32 ∧ u = nI j ∧ (65536 : Int32) < fd_Ref_had s.o_this + s.g_macros_lengths j) : mMacro1 N s (nI 3) v = some s := by
  unfold mMacro1
  refine Option.map_eq_some_iff.mpr ⟨(s.o_this, s.o_macros, s.g_macros_ids, s.g_macros_lengths, s.o_desk, s.o_shelf, s.o_sheet, s.o_lines, s.o_job, s.g_pages, s.g_seed, s.g_fresh, s.g_xWhat, s.g_xId, s.g_toDo, s.g_toDoId, s.g_bytes2, s.g_macros_permanent, s.g_macros_store, s.g_desk_state, s.g_desk_kept, s.g_desk_isKept, s.g_desk_steps, s.g_desk_glyph, s.g_desk_page, s.g_desk_other, s.g_desk_store, s.g_shelf_ids, s.g_shelf_attributes, s.g_shelf_permanent, s.g_shelf_glyph, s.g_shelf_store, s.g_shelf_draft, s.g_shelf_wishes, s.g_shelf_pins, s.g_shelf_coming, s.g_shelf_bytes, s.g_shelf_left, s.g_sheet_dots, s.g_lines_line, s.g_lines_above, s.g_lines_out, s.g_job_file, s.g_job_places, s.g_job_lengths), ?_, rfl⟩
  unfold ex_Ref_macro_c1
  refine (bind_eq hu).trans ?_
  rw [if_neg (show ¬ nI 3 = 0 by decide), if_neg (show ¬ nI 3 = 2 by decide), if_pos (show nI 3 = 3 from rfl)]
  rcases hl with q | ⟨j, hj, q, hl⟩
  · rw [if_pos q]
  · subst q
    have e1 : dk_in (nI j) 32 := dk_in_nI (by omega) (by omega)
    have e2 : (nI j).toNatClampNeg = j := nI_clamp (by omega)
    rw [if_neg (show ¬ nI j < 0 from nI_nlt (b := 0) (by omega) (by omega)), if_pos e1, e2, if_pos hl]

theorem mac_r0_2 {N : Nat} {s s' : RS} {v : Int32} {j : Nat} (hj : j < 32) (hu : ex_mMacros_find N s.o_macros s.g_macros_ids v = some (nI j)) (hl : ¬ (65536 : Int32) < fd_Ref_had s.o_this + s.g_macros_lengths j) (hr : mRun0 N s (nI j) 0 = some s') : mMacro0 N s (nI 2) v = some s' := by
  unfold mRun0 at hr
  obtain ⟨r, f, e⟩ := Option.map_eq_some_iff.mp hr
  subst e
  have e1 : dk_in (nI j) 32 := dk_in_nI (by omega) (by omega)
  have e2 : (nI j).toNatClampNeg = j := nI_clamp (by omega)
  unfold mMacro0
  refine Option.map_eq_some_iff.mpr ⟨(r.1, r.2.2.1, r.2.2.2.2.2.2.2.2.2.2.2.2.2.2.2.2.2.2.2.2.2.2.2.2.2.2.2.2.2.2.2.2.2.2.2.2.2.1, r.2.2.2.1, r.2.2.2.2.2.1, r.2.2.2.2.2.2.1, r.2.2.2.2.2.2.2.1, r.2.2.2.2.2.2.2.2.1, r.2.2.2.2.2.2.2.2.2.1, r.2.2.2.2.2.2.2.2.2.2.1, r.2.2.2.2.2.2.2.2.2.2.2.1, r.2.2.2.2.2.2.2.2.2.2.2.2.1, r.2.2.2.2.2.2.2.2.2.2.2.2.2.1, r.2.2.2.2.2.2.2.2.2.2.2.2.2.2.1, r.2.2.2.2.2.2.2.2.2.2.2.2.2.2.2.1, r.2.2.2.2.2.2.2.2.2.2.2.2.2.2.2.2.1, r.2.1, r.2.2.2.2.2.2.2.2.2.2.2.2.2.2.2.2.2.1, r.2.2.2.2.2.2.2.2.2.2.2.2.2.2.2.2.2.2.2.2.2.2.2.2.2.2.2.2.2.2.2.2.2.2.2.2.2.2.1, r.2.2.2.2.1, r.2.2.2.2.2.2.2.2.2.2.2.2.2.2.2.2.2.2.1, r.2.2.2.2.2.2.2.2.2.2.2.2.2.2.2.2.2.2.2.1, r.2.2.2.2.2.2.2.2.2.2.2.2.2.2.2.2.2.2.2.2.1, r.2.2.2.2.2.2.2.2.2.2.2.2.2.2.2.2.2.2.2.2.2.1, r.2.2.2.2.2.2.2.2.2.2.2.2.2.2.2.2.2.2.2.2.2.2.1, r.2.2.2.2.2.2.2.2.2.2.2.2.2.2.2.2.2.2.2.2.2.2.2.1, r.2.2.2.2.2.2.2.2.2.2.2.2.2.2.2.2.2.2.2.2.2.2.2.2.1, r.2.2.2.2.2.2.2.2.2.2.2.2.2.2.2.2.2.2.2.2.2.2.2.2.2.1, r.2.2.2.2.2.2.2.2.2.2.2.2.2.2.2.2.2.2.2.2.2.2.2.2.2.2.1, r.2.2.2.2.2.2.2.2.2.2.2.2.2.2.2.2.2.2.2.2.2.2.2.2.2.2.2.1, r.2.2.2.2.2.2.2.2.2.2.2.2.2.2.2.2.2.2.2.2.2.2.2.2.2.2.2.2.1, r.2.2.2.2.2.2.2.2.2.2.2.2.2.2.2.2.2.2.2.2.2.2.2.2.2.2.2.2.2.1, r.2.2.2.2.2.2.2.2.2.2.2.2.2.2.2.2.2.2.2.2.2.2.2.2.2.2.2.2.2.2.1, r.2.2.2.2.2.2.2.2.2.2.2.2.2.2.2.2.2.2.2.2.2.2.2.2.2.2.2.2.2.2.2.1, r.2.2.2.2.2.2.2.2.2.2.2.2.2.2.2.2.2.2.2.2.2.2.2.2.2.2.2.2.2.2.2.2.1, r.2.2.2.2.2.2.2.2.2.2.2.2.2.2.2.2.2.2.2.2.2.2.2.2.2.2.2.2.2.2.2.2.2.1, r.2.2.2.2.2.2.2.2.2.2.2.2.2.2.2.2.2.2.2.2.2.2.2.2.2.2.2.2.2.2.2.2.2.2.1, r.2.2.2.2.2.2.2.2.2.2.2.2.2.2.2.2.2.2.2.2.2.2.2.2.2.2.2.2.2.2.2.2.2.2.2.1, r.2.2.2.2.2.2.2.2.2.2.2.2.2.2.2.2.2.2.2.2.2.2.2.2.2.2.2.2.2.2.2.2.2.2.2.2.1, r.2.2.2.2.2.2.2.2.2.2.2.2.2.2.2.2.2.2.2.2.2.2.2.2.2.2.2.2.2.2.2.2.2.2.2.2.2.2.2.1, r.2.2.2.2.2.2.2.2.2.2.2.2.2.2.2.2.2.2.2.2.2.2.2.2.2.2.2.2.2.2.2.2.2.2.2.2.2.2.2.2.1, r.2.2.2.2.2.2.2.2.2.2.2.2.2.2.2.2.2.2.2.2.2.2.2.2.2.2.2.2.2.2.2.2.2.2.2.2.2.2.2.2.2.1, r.2.2.2.2.2.2.2.2.2.2.2.2.2.2.2.2.2.2.2.2.2.2.2.2.2.2.2.2.2.2.2.2.2.2.2.2.2.2.2.2.2.2.1, r.2.2.2.2.2.2.2.2.2.2.2.2.2.2.2.2.2.2.2.2.2.2.2.2.2.2.2.2.2.2.2.2.2.2.2.2.2.2.2.2.2.2.2.1, r.2.2.2.2.2.2.2.2.2.2.2.2.2.2.2.2.2.2.2.2.2.2.2.2.2.2.2.2.2.2.2.2.2.2.2.2.2.2.2.2.2.2.2.2.1, r.2.2.2.2.2.2.2.2.2.2.2.2.2.2.2.2.2.2.2.2.2.2.2.2.2.2.2.2.2.2.2.2.2.2.2.2.2.2.2.2.2.2.2.2.2), ?p9, rfl⟩
  case p9 =>
    unfold ex_Ref_macro_c0
    refine (bind_eq hu).trans ?_
    rw [if_neg (show ¬ nI 2 = 0 by decide), if_pos (show nI 2 = 2 from rfl), if_neg (show ¬ nI j < 0 from nI_nlt (b := 0) (by omega) (by omega)), if_pos e1, e2, if_neg hl, if_neg (show ¬ nI 2 = 3 by decide)]
    exact (bind_eq f).trans rfl
theorem mac_f0_2 {N : Nat} {s : RS} {v : Int32} {u : Int32} (hu : ex_mMacros_find N s.o_macros s.g_macros_ids v = some u) (hl : u < 0 ∨ ∃ j, j < 32 ∧ u = nI j ∧ (65536 : Int32) < fd_Ref_had s.o_this + s.g_macros_lengths j) : mMacro0 N s (nI 2) v = some s := by
  unfold mMacro0
  refine Option.map_eq_some_iff.mpr ⟨(s.o_this, s.o_macros, s.g_macros_ids, s.g_macros_lengths, s.o_desk, s.o_shelf, s.o_sheet, s.o_lines, s.o_job, s.g_pages, s.g_seed, s.g_fresh, s.g_xWhat, s.g_xId, s.g_toDo, s.g_toDoId, s.g_bytes1, s.g_bytes2, s.g_macros_permanent, s.g_macros_store, s.g_desk_state, s.g_desk_kept, s.g_desk_isKept, s.g_desk_steps, s.g_desk_glyph, s.g_desk_page, s.g_desk_other, s.g_desk_store, s.g_shelf_ids, s.g_shelf_attributes, s.g_shelf_permanent, s.g_shelf_glyph, s.g_shelf_store, s.g_shelf_draft, s.g_shelf_wishes, s.g_shelf_pins, s.g_shelf_coming, s.g_shelf_bytes, s.g_shelf_left, s.g_sheet_dots, s.g_lines_line, s.g_lines_above, s.g_lines_out, s.g_job_file, s.g_job_places, s.g_job_lengths), ?_, rfl⟩
  unfold ex_Ref_macro_c0
  refine (bind_eq hu).trans ?_
  rw [if_neg (show ¬ nI 2 = 0 by decide), if_pos (show nI 2 = 2 from rfl)]
  rcases hl with q | ⟨j, hj, q, hl⟩
  · rw [if_pos q]
  · subst q
    have e1 : dk_in (nI j) 32 := dk_in_nI (by omega) (by omega)
    have e2 : (nI j).toNatClampNeg = j := nI_clamp (by omega)
    rw [if_neg (show ¬ nI j < 0 from nI_nlt (b := 0) (by omega) (by omega)), if_pos e1, e2, if_pos hl]

theorem mac_r0_3 {N : Nat} {s s' : RS} {v : Int32} {j : Nat} (hj : j < 32) (hu : ex_mMacros_find N s.o_macros s.g_macros_ids v = some (nI j)) (hl : ¬ (65536 : Int32) < fd_Ref_had s.o_this + s.g_macros_lengths j) (hr : mRun0 N s (nI j) 1 = some s') : mMacro0 N s (nI 3) v = some s' := by
  unfold mRun0 at hr
  obtain ⟨r, f, e⟩ := Option.map_eq_some_iff.mp hr
  subst e
  have e1 : dk_in (nI j) 32 := dk_in_nI (by omega) (by omega)
  have e2 : (nI j).toNatClampNeg = j := nI_clamp (by omega)
  unfold mMacro0
  refine Option.map_eq_some_iff.mpr ⟨(r.1, r.2.2.1, r.2.2.2.2.2.2.2.2.2.2.2.2.2.2.2.2.2.2.2.2.2.2.2.2.2.2.2.2.2.2.2.2.2.2.2.2.2.1, r.2.2.2.1, r.2.2.2.2.2.1, r.2.2.2.2.2.2.1, r.2.2.2.2.2.2.2.1, r.2.2.2.2.2.2.2.2.1, r.2.2.2.2.2.2.2.2.2.1, r.2.2.2.2.2.2.2.2.2.2.1, r.2.2.2.2.2.2.2.2.2.2.2.1, r.2.2.2.2.2.2.2.2.2.2.2.2.1, r.2.2.2.2.2.2.2.2.2.2.2.2.2.1, r.2.2.2.2.2.2.2.2.2.2.2.2.2.2.1, r.2.2.2.2.2.2.2.2.2.2.2.2.2.2.2.1, r.2.2.2.2.2.2.2.2.2.2.2.2.2.2.2.2.1, r.2.1, r.2.2.2.2.2.2.2.2.2.2.2.2.2.2.2.2.2.1, r.2.2.2.2.2.2.2.2.2.2.2.2.2.2.2.2.2.2.2.2.2.2.2.2.2.2.2.2.2.2.2.2.2.2.2.2.2.2.1, r.2.2.2.2.1, r.2.2.2.2.2.2.2.2.2.2.2.2.2.2.2.2.2.2.1, r.2.2.2.2.2.2.2.2.2.2.2.2.2.2.2.2.2.2.2.1, r.2.2.2.2.2.2.2.2.2.2.2.2.2.2.2.2.2.2.2.2.1, r.2.2.2.2.2.2.2.2.2.2.2.2.2.2.2.2.2.2.2.2.2.1, r.2.2.2.2.2.2.2.2.2.2.2.2.2.2.2.2.2.2.2.2.2.2.1, r.2.2.2.2.2.2.2.2.2.2.2.2.2.2.2.2.2.2.2.2.2.2.2.1, r.2.2.2.2.2.2.2.2.2.2.2.2.2.2.2.2.2.2.2.2.2.2.2.2.1, r.2.2.2.2.2.2.2.2.2.2.2.2.2.2.2.2.2.2.2.2.2.2.2.2.2.1, r.2.2.2.2.2.2.2.2.2.2.2.2.2.2.2.2.2.2.2.2.2.2.2.2.2.2.1, r.2.2.2.2.2.2.2.2.2.2.2.2.2.2.2.2.2.2.2.2.2.2.2.2.2.2.2.1, r.2.2.2.2.2.2.2.2.2.2.2.2.2.2.2.2.2.2.2.2.2.2.2.2.2.2.2.2.1, r.2.2.2.2.2.2.2.2.2.2.2.2.2.2.2.2.2.2.2.2.2.2.2.2.2.2.2.2.2.1, r.2.2.2.2.2.2.2.2.2.2.2.2.2.2.2.2.2.2.2.2.2.2.2.2.2.2.2.2.2.2.1, r.2.2.2.2.2.2.2.2.2.2.2.2.2.2.2.2.2.2.2.2.2.2.2.2.2.2.2.2.2.2.2.1, r.2.2.2.2.2.2.2.2.2.2.2.2.2.2.2.2.2.2.2.2.2.2.2.2.2.2.2.2.2.2.2.2.1, r.2.2.2.2.2.2.2.2.2.2.2.2.2.2.2.2.2.2.2.2.2.2.2.2.2.2.2.2.2.2.2.2.2.1, r.2.2.2.2.2.2.2.2.2.2.2.2.2.2.2.2.2.2.2.2.2.2.2.2.2.2.2.2.2.2.2.2.2.2.1, r.2.2.2.2.2.2.2.2.2.2.2.2.2.2.2.2.2.2.2.2.2.2.2.2.2.2.2.2.2.2.2.2.2.2.2.1, r.2.2.2.2.2.2.2.2.2.2.2.2.2.2.2.2.2.2.2.2.2.2.2.2.2.2.2.2.2.2.2.2.2.2.2.2.1, r.2.2.2.2.2.2.2.2.2.2.2.2.2.2.2.2.2.2.2.2.2.2.2.2.2.2.2.2.2.2.2.2.2.2.2.2.2.2.2.1, r.2.2.2.2.2.2.2.2.2.2.2.2.2.2.2.2.2.2.2.2.2.2.2.2.2.2.2.2.2.2.2.2.2.2.2.2.2.2.2.2.1, r.2.2.2.2.2.2.2.2.2.2.2.2.2.2.2.2.2.2.2.2.2.2.2.2.2.2.2.2.2.2.2.2.2.2.2.2.2.2.2.2.2.1, r.2.2.2.2.2.2.2.2.2.2.2.2.2.2.2.2.2.2.2.2.2.2.2.2.2.2.2.2.2.2.2.2.2.2.2.2.2.2.2.2.2.2.1, r.2.2.2.2.2.2.2.2.2.2.2.2.2.2.2.2.2.2.2.2.2.2.2.2.2.2.2.2.2.2.2.2.2.2.2.2.2.2.2.2.2.2.2.1, r.2.2.2.2.2.2.2.2.2.2.2.2.2.2.2.2.2.2.2.2.2.2.2.2.2.2.2.2.2.2.2.2.2.2.2.2.2.2.2.2.2.2.2.2.1, r.2.2.2.2.2.2.2.2.2.2.2.2.2.2.2.2.2.2.2.2.2.2.2.2.2.2.2.2.2.2.2.2.2.2.2.2.2.2.2.2.2.2.2.2.2), ?p9, rfl⟩
  case p9 =>
    unfold ex_Ref_macro_c0
    refine (bind_eq hu).trans ?_
    rw [if_neg (show ¬ nI 3 = 0 by decide), if_neg (show ¬ nI 3 = 2 by decide), if_pos (show nI 3 = 3 from rfl), if_neg (show ¬ nI j < 0 from nI_nlt (b := 0) (by omega) (by omega)), if_pos e1, e2, if_neg hl, if_pos (show nI 3 = 3 from rfl)]
    exact (bind_eq f).trans rfl
theorem mac_f0_3 {N : Nat} {s : RS} {v : Int32} {u : Int32} (hu : ex_mMacros_find N s.o_macros s.g_macros_ids v = some u) (hl : u < 0 ∨ ∃ j, j < 32 ∧ u = nI j ∧ (65536 : Int32) < fd_Ref_had s.o_this + s.g_macros_lengths j) : mMacro0 N s (nI 3) v = some s := by
  unfold mMacro0
  refine Option.map_eq_some_iff.mpr ⟨(s.o_this, s.o_macros, s.g_macros_ids, s.g_macros_lengths, s.o_desk, s.o_shelf, s.o_sheet, s.o_lines, s.o_job, s.g_pages, s.g_seed, s.g_fresh, s.g_xWhat, s.g_xId, s.g_toDo, s.g_toDoId, s.g_bytes1, s.g_bytes2, s.g_macros_permanent, s.g_macros_store, s.g_desk_state, s.g_desk_kept, s.g_desk_isKept, s.g_desk_steps, s.g_desk_glyph, s.g_desk_page, s.g_desk_other, s.g_desk_store, s.g_shelf_ids, s.g_shelf_attributes, s.g_shelf_permanent, s.g_shelf_glyph, s.g_shelf_store, s.g_shelf_draft, s.g_shelf_wishes, s.g_shelf_pins, s.g_shelf_coming, s.g_shelf_bytes, s.g_shelf_left, s.g_sheet_dots, s.g_lines_line, s.g_lines_above, s.g_lines_out, s.g_job_file, s.g_job_places, s.g_job_lengths), ?_, rfl⟩
  unfold ex_Ref_macro_c0
  refine (bind_eq hu).trans ?_
  rw [if_neg (show ¬ nI 3 = 0 by decide), if_neg (show ¬ nI 3 = 2 by decide), if_pos (show nI 3 = 3 from rfl)]
  rcases hl with q | ⟨j, hj, q, hl⟩
  · rw [if_pos q]
  · subst q
    have e1 : dk_in (nI j) 32 := dk_in_nI (by omega) (by omega)
    have e2 : (nI j).toNatClampNeg = j := nI_clamp (by omega)
    rw [if_neg (show ¬ nI j < 0 from nI_nlt (b := 0) (by omega) (by omega)), if_pos e1, e2, if_pos hl]
