theorem pr3_of {N : Nat} {o : ob_Ref} {os : ob_mPictures} {g : Nat → Int32} {ov : ob_mLines} {f ra wr br wb bb bl md rl : Nat → Int32} {v0 v1 v2 : Int32} {r : rs_Ref_printed3} (h : ex_Ref_printed3 N o os g v0 v1 v2 = some r) : ex_Ref_printed N o os g ov f ra wr br wb bb bl md rl v0 v1 v2 = some (r.1, ov, ra, rl, r.2) ∧ r.1 = fs_Ref_thrown o 0 := by
  unfold ex_Ref_printed3 at h
  unfold ex_Ref_printed
  by_cases c0 : v0 < 0
  · rw [if_pos c0] at h
    refine ⟨(if_pos c0).trans ?_, ?_⟩
    · rw [← Option.some.inj h]
    · rw [← Option.some.inj h]
  · rw [if_neg c0] at h
    obtain ⟨u, hu, h⟩ := Option.bind_eq_some_iff.mp h
    by_cases c1 : v0 < u
    · rw [if_pos c1] at h
      by_cases c2 : dk_in (4 * v0) 160
      · rw [if_pos c2] at h
        by_cases c3 : v1 < 0
        · rw [if_pos c3] at h
          refine ⟨(if_neg c0).trans ((bind_eq hu).trans ((if_pos c1).trans ((if_pos c2).trans ((if_pos c3).trans ?_)))), ?_⟩
          · rw [← Option.some.inj h]
          · rw [← Option.some.inj h]
        · rw [if_neg c3] at h
          by_cases c4 : dk_in (4 * v0 + 1) 160
          · rw [if_pos c4] at h
            by_cases c5 : g (4 * v0 + 1).toNatClampNeg ≤ v1
            · rw [if_pos c5] at h
              refine ⟨(if_neg c0).trans ((bind_eq hu).trans ((if_pos c1).trans ((if_pos c2).trans ((if_neg c3).trans ((if_pos c4).trans ((if_pos c5).trans ?_)))))), ?_⟩
              · rw [← Option.some.inj h]
              · rw [← Option.some.inj h]
            · rw [if_neg c5] at h
              by_cases c6 : v2 < 0
              · rw [if_pos c6] at h
                refine ⟨(if_neg c0).trans ((bind_eq hu).trans ((if_pos c1).trans ((if_pos c2).trans ((if_neg c3).trans ((if_pos c4).trans ((if_neg c5).trans ((if_pos c6).trans ?_))))))), ?_⟩
                · rw [← Option.some.inj h]
                · rw [← Option.some.inj h]
              · rw [if_neg c6] at h
                by_cases c7 : v2 ≤ 156
                · rw [if_pos c7] at h; cases h
                · rw [if_neg c7] at h
                  refine ⟨(if_neg c0).trans ((bind_eq hu).trans ((if_pos c1).trans ((if_pos c2).trans ((if_neg c3).trans ((if_pos c4).trans ((if_neg c5).trans ((if_neg c6).trans ((if_neg c7).trans ?_)))))))), ?_⟩
                  · rw [← Option.some.inj h]
                  · rw [← Option.some.inj h]
          · rw [if_neg c4] at h; cases h
      · rw [if_neg c2] at h; cases h
    · rw [if_neg c1] at h
      refine ⟨(if_neg c0).trans ((bind_eq hu).trans ((if_neg c1).trans ?_)), ?_⟩
      · rw [← Option.some.inj h]
      · rw [← Option.some.inj h]
theorem pr2_of {N : Nat} {o : ob_Ref} {os : ob_mPictures} {g : Nat → Int32} {ov : ob_mLines} {f ra wr br wb bb bl md rl : Nat → Int32} {v0 v1 v2 : Int32} {r : rs_Ref_printed} (h : ex_Ref_printed N o os g ov f ra wr br wb bb bl md rl v0 v1 v2 = some r) (hv : fd_Ref_viewPage o = -1) (h3 : ¬ (ex_Ref_printed3 N o os g v0 v1 v2).isSome = true) : ex_Ref_printed2 N o os g ov f ra wr br wb bb bl md rl v0 v1 v2 = some r := by
  unfold ex_Ref_printed3 at h3
  unfold ex_Ref_printed at h
  unfold ex_Ref_printed2
  by_cases c0 : v0 < 0
  · rw [if_pos c0] at h3; exact absurd rfl h3
  · rw [if_neg c0] at h h3 ⊢
    obtain ⟨u, hu, h⟩ := Option.bind_eq_some_iff.mp h
    rw [hu, Option.bind_some] at h3 ⊢
    by_cases c1 : v0 < u
    · rw [if_pos c1] at h h3 ⊢
      by_cases c2 : dk_in (4 * v0) 160
      · rw [if_pos c2] at h h3 ⊢
        by_cases c3 : v1 < 0
        · rw [if_pos c3] at h3; exact absurd rfl h3
        · rw [if_neg c3] at h h3 ⊢
          by_cases c4 : dk_in (4 * v0 + 1) 160
          · rw [if_pos c4] at h h3 ⊢
            by_cases c5 : g (4 * v0 + 1).toNatClampNeg ≤ v1
            · rw [if_pos c5] at h3; exact absurd rfl h3
            · rw [if_neg c5] at h h3 ⊢
              by_cases c6 : v2 < 0
              · rw [if_pos c6] at h3; exact absurd rfl h3
              · rw [if_neg c6] at h h3 ⊢
                by_cases c7 : v2 ≤ 156
                · rw [if_pos c7] at h ⊢
                  have c8 : ¬ fd_Ref_viewPage o = v0 := by
                    rw [hv]; intro e; rw [← e] at c0; exact c0 (by decide)
                  rw [if_neg c8] at h ⊢
                  exact h
                · rw [if_neg c7] at h3; exact absurd rfl h3
          · rw [if_neg c4] at h; cases h
      · rw [if_neg c2] at h; cases h
    · rw [if_neg c1] at h3; exact absurd rfl h3
theorem lc5_ok {N L d k : Nat} {xs : Nat → Int32} {i : Int32} {kS : CS} {mS : RS} {q1 q2 : Nat → Int32} {fu : Nat → Int64} {rec : recT} (hN : 2 ^ 24 < N) (hk : k < 2 ^ 30) (g1 : dk_in (i + 1) L) (g2 : dk_in (i + 2) L) (g3 : dk_in (i + 3) L) (hV : jV N d k kS mS) (hr : recK N d (k + 1) rec) : lc_5 N L xs i kS mS q1 q2 fu rec = some () := by
  obtain ⟨s1, m1, v, e1, e2, e4⟩ := cv_printed (v0 := xs (i + 1).toNatClampNeg) (v1 := xs (i + 2).toNatClampNeg) (v2 := xs (i + 3).toNatClampNeg) (by omega) hk hV
  unfold kPrinted at e1
  unfold mPrinted at e2
  obtain ⟨u, hu, h1⟩ := map_some e1
  obtain ⟨w, hw, h2⟩ := map_some e2
  have hv : u.2.2.2 = w.2.2.2.2 := (congrArg Prod.snd h1).symm.trans (congrArg Prod.snd h2)
  have hs := congrArg Prod.fst h1
  have hm := congrArg Prod.fst h2
  dsimp only at hs hm
  subst hs; subst hm
  unfold lc_5
  refine (if_pos g1).trans ?_
  refine (if_pos g2).trans ?_
  refine (if_pos g3).trans ?_
  refine (bind_eq hu).trans ?_
  refine (if_pos g1).trans ?_
  refine (if_pos g2).trans ?_
  refine (if_pos g3).trans ?_
  by_cases c : fd_Ref_viewPage mS.o_this = -1
  · refine (if_pos c).trans ?_
    by_cases c3 : (ex_Ref_printed3 N mS.o_this mS.o_shown mS.g_shownPages (xs (i + 1).toNatClampNeg) (xs (i + 2).toNatClampNeg) (xs (i + 3).toNatClampNeg)).isSome = true
    · refine (if_pos c3).trans ?_
      obtain ⟨r, hr3⟩ := Option.isSome_iff_exists.mp c3
      obtain ⟨h5, h6⟩ := pr3_of (ov := mS.o_view) (f := mS.g_shown_file) (ra := mS.g_view_readAbove) (wr := mS.g_view_whiteRests) (br := mS.g_view_blackRests) (wb := mS.g_view_whiteBlocks) (bb := mS.g_view_blackBlocks) (bl := mS.g_view_blocks) (md := mS.g_view_modes) (rl := mS.g_view_readLine) hr3
      obtain rfl := Option.some.inj (hw.symm.trans h5)
      refine (bind_eq hr3).trans ?_
      refine (if_pos (show lg_cmp u.2.2.2 r.2 = 0 by rw [hv]; exact lgc_r _)).trans ?_
      refine (if_pos (by rw [h6])).trans ?_
      exact hr _ _ _ _ _ e4
    · refine (if_neg c3).trans ?_
      refine (bind_eq (pr2_of hw c c3)).trans ?_
      refine (if_pos (show lg_cmp u.2.2.2 w.2.2.2.2 = 0 by rw [hv]; exact lgc_r _)).trans ?_
      exact hr _ _ _ _ _ e4
  · refine (if_neg c).trans ?_
    refine (bind_eq hw).trans ?_
    refine (if_pos (show lg_cmp u.2.2.2 w.2.2.2.2 = 0 by rw [hv]; exact lgc_r _)).trans ?_
    exact hr _ _ _ _ _ e4
