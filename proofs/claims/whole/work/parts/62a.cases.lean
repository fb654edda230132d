theorem lgc_r (x : Int64) : lg_cmp x x = 0 := by unfold lg_cmp; simp
theorem map_some {α β : Type} {x : Option α} {f : α → β} {y : β} (h : x.map f = some y) : ∃ u, x = some u ∧ y = f u := by
  obtain ⟨u, h1, h2⟩ := Option.map_eq_some_iff.mp h
  exact ⟨u, h1, h2.symm⟩
abbrev recT : Type := CS → RS → (Nat → Int32) → (Nat → Int32) → (Nat → Int64) → Option Unit
abbrev recK (N d k : Nat) (rec : recT) : Prop := ∀ s m q1 q2 fu, jV N d k s m → rec s m q1 q2 fu = some ()
theorem lc0_ok {N L d k : Nat} {xs : Nat → Int32} {i : Int32} {kS : CS} {mS : RS} {q1 q2 : Nat → Int32} {fu : Nat → Int64} {rec : recT} (hN : 2 ^ 24 < N) (g1 : dk_in (i + 1) L) (g2 : dk_in (i + 2) L) (g3 : dk_in (i + 3) L) (g4 : dk_in (i + 4) L) (g5 : dk_in (i + 5) L) (hV : jV N d k kS mS) (hr : recK N d (k + 1) rec) : lc_0 N L xs i kS mS q1 q2 fu rec = some () := by
  obtain ⟨s1, m1, v, e1, e2, e3, e4⟩ := cv_tape (a := xs (i + 1).toNatClampNeg) (b := xs (i + 2).toNatClampNeg) (c := xs (i + 3).toNatClampNeg) (e := xs (i + 4).toNatClampNeg) (f := xs (i + 5).toNatClampNeg) (by omega) hV
  unfold kTape at e1
  unfold mTape at e2
  obtain ⟨u, hu, h1⟩ := map_some e1
  obtain ⟨w, hw, h2⟩ := map_some e2
  have hv : u.2.2 = w.2.2 := (congrArg Prod.snd h1).symm.trans (congrArg Prod.snd h2)
  have hs := congrArg Prod.fst h1
  have hm := congrArg Prod.fst h2
  dsimp only at hs hm
  subst hs; subst hm
  unfold lc_0
  refine (if_pos g1).trans ?_
  refine (if_pos g2).trans ?_
  refine (if_pos g3).trans ?_
  refine (if_pos g4).trans ?_
  refine (if_pos g5).trans ?_
  refine (bind_eq hu).trans ?_
  refine (if_pos g1).trans ?_
  refine (if_pos g2).trans ?_
  refine (if_pos g3).trans ?_
  refine (if_pos g4).trans ?_
  refine (if_pos g5).trans ?_
  refine (bind_eq hw).trans ?_
  refine (if_pos hv).trans ?_
  refine (if_pos e3).trans ?_
  exact hr _ _ _ _ _ e4
theorem lc3_ok {N L d k : Nat} {xs : Nat → Int32} {i : Int32} {kS : CS} {mS : RS} {q1 q2 : Nat → Int32} {fu : Nat → Int64} {rec : recT} (hN : 2 ^ 24 < N) (hk : k < 2 ^ 30) (g1 : dk_in (i + 1) L) (hV : jV N d k kS mS) (hr : recK N d (k + 1) rec) : lc_3 N L xs i kS mS q1 q2 fu rec = some () := by
  obtain ⟨m1, v, e1, e2, e3, e4⟩ := cv_bytes (v := xs (i + 1).toNatClampNeg) (by omega) hk hV
  unfold kBytesAt at e1
  unfold mBytesAt at e2
  obtain ⟨u, hu, h1⟩ := map_some e1
  obtain ⟨w, hw, h2⟩ := map_some e2
  have hv : u = w.2.2 := h1.symm.trans (congrArg Prod.snd h2)
  have hm := congrArg Prod.fst h2
  dsimp only at hm
  subst hm
  unfold lc_3
  refine (if_pos g1).trans ?_
  refine (bind_eq hu).trans ?_
  refine (if_pos g1).trans ?_
  refine (bind_eq hw).trans ?_
  refine (if_pos (show lg_cmp u w.2.2 = 0 by rw [hv]; exact lgc_r _)).trans ?_
  refine (if_pos e3).trans ?_
  exact hr _ _ _ _ _ e4
theorem lc6_ok {N L d k : Nat} {xs : Nat → Int32} {i : Int32} {kS : CS} {mS : RS} {q1 q2 : Nat → Int32} {fu : Nat → Int64} {rec : recT} (hN : 2 ^ 24 < N) (hk : k < 2 ^ 30) (g1 : dk_in (i + 1) L) (hV : jV N d k kS mS) (hr : recK N d (k + 1) rec) : lc_6 N L xs i kS mS q1 q2 fu rec = some () := by
  obtain ⟨m1, v, e1, e2, e3, e4⟩ := cv_status (v := xs (i + 1).toNatClampNeg) (by omega) hk hV
  unfold kStatus at e1
  unfold mStatus at e2
  obtain ⟨u, hu, h1⟩ := map_some e1
  obtain ⟨w, hw, h2⟩ := map_some e2
  have hv : u = w.2.2.2 := h1.symm.trans (congrArg Prod.snd h2)
  have hm := congrArg Prod.fst h2
  dsimp only at hm
  subst hm
  unfold lc_6
  refine (if_pos g1).trans ?_
  refine (bind_eq hu).trans ?_
  refine (if_pos g1).trans ?_
  refine (bind_eq hw).trans ?_
  refine (if_pos hv).trans ?_
  refine (if_pos e3).trans ?_
  exact hr _ _ _ _ _ e4
theorem lc2_ok {N L d k : Nat} {xs : Nat → Int32} {i : Int32} {kS : CS} {mS : RS} {q1 q2 : Nat → Int32} {fu : Nat → Int64} {rec : recT} (hN : 2 ^ 24 < N) (hk : k < 512) (hV : jV N d k kS mS) (hr : recK N d (k + 1) rec) : lc_2 N L xs i kS mS q1 q2 fu rec = some () := by
  obtain ⟨u, w, e1, e2, e3, e4, e5⟩ := cv_conclude (by omega) hk hV
  unfold lc_2
  refine (bind_eq e1).trans ?_
  refine (bind_eq e2).trans ?_
  refine (if_pos e3).trans ?_
  refine (if_pos e4).trans ?_
  exact hr _ _ _ _ _ (e5 q1 q2)
theorem lc4_ok {N L d k : Nat} {xs : Nat → Int32} {i : Int32} {kS : CS} {mS : RS} {q1 q2 : Nat → Int32} {fu : Nat → Int64} {rec : recT} (hk : k < 2 ^ 30) (g1 : dk_in (i + 1) L) (g2 : dk_in (i + 2) L) (hV : jV N d k kS mS) (hr : recK N d (k + 1) rec) : lc_4 N L xs i kS mS q1 q2 fu rec = some () := by
  obtain ⟨P, hP, e0, e1, e2⟩ := cv_sheet (N := N) (v := xs (i + 1).toNatClampNeg) (w := xs (i + 2).toNatClampNeg) hk hV
  unfold lc_4
  refine (if_pos g1).trans ?_
  refine (if_pos g2).trans ?_
  by_cases q : soX (fd_OutFile_pages kS.o_shown) (xs (i + 1).toNatClampNeg) (xs (i + 2).toNatClampNeg)
  · obtain ⟨f1, f2⟩ := e1 (by rw [e0] at q; exact q)
    unfold mSheetOf at f1
    obtain ⟨w, hw, h2⟩ := map_some f1
    have hm : mO mS (fs_Ref_thrown mS.o_this 1) = _ := congrArg Prod.fst h2
    have ho : w.1 = fs_Ref_thrown mS.o_this 1 := (congrArg (fun z : RS => z.o_this) hm).symm
    have hl : ex_Law_sheetOf N kS.o_this fu kS.o_shown kS.g_shown_table (xs (i + 1).toNatClampNeg) (xs (i + 2).toNatClampNeg) = some (fu, 1) := by
      unfold ex_Law_sheetOf; exact if_pos q
    have ht : ex_Ref_thrown N w.1 = some 1 := by rw [ho]; rfl
    refine (bind_eq hl).trans ?_
    refine (if_pos g1).trans ?_
    refine (if_pos g2).trans ?_
    refine (bind_eq hw).trans ?_
    refine (bind_eq ht).trans ?_
    refine (if_pos rfl).trans ?_
    refine (if_neg (show ¬ (1 : Int32) = 0 by decide)).trans ?_
    refine (if_pos (by rw [ho])).trans ?_
    refine hr _ _ _ _ _ ?_
    rw [ho]
    exact f2
  · obtain ⟨x, f0, f1, f2⟩ := e2 (by rw [e0] at q; exact q)
    unfold kSheetOf at f0
    unfold mSheetOf at f1
    obtain ⟨u, hu, h1⟩ := map_some f0
    obtain ⟨w, hw, h2⟩ := map_some f1
    have hm : mO mS (fs_Ref_thrown mS.o_this 0) = _ := congrArg Prod.fst h2
    have ho : w.1 = fs_Ref_thrown mS.o_this 0 := (congrArg (fun z : RS => z.o_this) hm).symm
    have hv : u = w.2 := h1.symm.trans (congrArg Prod.snd h2)
    have hl : ex_Law_sheetOf N kS.o_this fu kS.o_shown kS.g_shown_table (xs (i + 1).toNatClampNeg) (xs (i + 2).toNatClampNeg) = some (vp_updL fu 0 u.toInt64, 0) := by
      unfold ex_Law_sheetOf
      refine (if_neg q).trans ?_
      refine (bind_eq hu).trans ?_
      rfl
    have ht : ex_Ref_thrown N w.1 = some 0 := by rw [ho]; rfl
    refine (bind_eq hl).trans ?_
    refine (if_pos g1).trans ?_
    refine (if_pos g2).trans ?_
    refine (bind_eq hw).trans ?_
    refine (bind_eq ht).trans ?_
    refine (if_pos rfl).trans ?_
    refine (if_pos rfl).trans ?_
    refine (if_pos (show lg_cmp (vp_updL fu 0 u.toInt64 0) w.2.toInt64 = 0 by rw [hv]; exact lgc_r _)).trans ?_
    refine (if_pos (by rw [ho])).trans ?_
    refine hr _ _ _ _ _ ?_
    rw [ho]
    exact f2
