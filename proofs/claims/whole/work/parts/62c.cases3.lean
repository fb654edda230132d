theorem thr_ex {N : Nat} {o : ob_Ref} {x : Int32} (h : fd_Ref_thrown o = x) : ex_Ref_thrown N o = some x := by rw [← h]; rfl
set_option maxHeartbeats 4000000 in
theorem lc1_ok {N L d k : Nat} {xs : Nat → Int32} {i : Int32} {kS : CS} {mS : RS} {q1 q2 : Nat → Int32} {fu : Nat → Int64} {rec : recT} (hN : 2 ^ 24 < N) (hk : k < 512) (g1 : dk_in (i + 1) L) (g2 : dk_in (i + 2) L) (hV : jV N d k kS mS) (hr : recK N d (k + 1) rec) : lc_1 N L xs i kS mS q1 q2 fu rec = some () := by
  unfold lc_1
  refine (if_pos g1).trans ?_
  refine (if_pos g2).trans ?_
  rcases cv_submit (v0 := xs (i + 1).toNatClampNeg) (v1 := xs (i + 2).toNatClampNeg) hN hk hV with ⟨hb, e1, e2⟩ | ⟨hb, hf, e1, e2⟩ | ⟨s1, m1, x, hb, hf, e0, e1, et, ev, e2⟩
  · unfold mSubmit at e1
    obtain ⟨w, hw, h2⟩ := map_some e1
    have hm : mO mS (fs_Ref_thrown mS.o_this 1) = _ := congrArg Prod.fst h2
    have ho : w.1 = fs_Ref_thrown mS.o_this 1 := (congrArg (fun z : RS => z.o_this) hm).symm
    rw [hm] at e2
    refine (bind_eq (a := ?a1) ?h1).trans ?_
    case h1 => unfold ex_Law_submit; exact if_neg hb
    refine (if_pos g1).trans ?_
    refine (if_pos g2).trans ?_
    refine (bind_eq hw).trans ?_
    refine (bind_eq (thr_ex (x := 1) (by rw [ho]))).trans ?_
    refine (if_pos rfl).trans ?_
    refine (if_neg (show ¬ (1 : Int32) = 0 by decide)).trans ?_
    refine (if_pos (by rw [ho])).trans ?_
    exact hr _ _ _ _ _ e2
  · unfold mSubmit at e1
    obtain ⟨w, hw, h2⟩ := map_some e1
    have hm : mO mS (fs_Ref_thrown mS.o_this 2) = _ := congrArg Prod.fst h2
    have ho : w.1 = fs_Ref_thrown mS.o_this 2 := (congrArg (fun z : RS => z.o_this) hm).symm
    rw [hm] at e2
    refine (bind_eq (a := ?a2) ?h2).trans ?_
    case h2 =>
      unfold ex_Law_submit
      refine (if_pos hb).trans ?_
      exact if_neg hf
    refine (if_pos g1).trans ?_
    refine (if_pos g2).trans ?_
    refine (bind_eq hw).trans ?_
    refine (bind_eq (thr_ex (x := 2) (by rw [ho]))).trans ?_
    refine (if_pos rfl).trans ?_
    refine (if_neg (show ¬ (2 : Int32) = 0 by decide)).trans ?_
    refine (if_pos (by rw [ho])).trans ?_
    exact hr _ _ _ _ _ e2
  · unfold kSubmit at e0
    unfold mSubmit at e1
    obtain ⟨u, hu, h1⟩ := map_some e0
    obtain ⟨w, hw, h2⟩ := map_some e1
    have a1 := congrArg Prod.snd h1
    have a2 := congrArg Prod.snd h2
    dsimp only at a1 a2
    have hv := a1.symm.trans a2
    have hs := congrArg Prod.fst h1
    have hm := congrArg Prod.fst h2
    dsimp only at hs hm
    subst hs; subst hm
    refine (bind_eq (a := ?a3) ?h3).trans ?_
    case h3 =>
      unfold ex_Law_submit
      refine (if_pos hb).trans ?_
      refine (if_pos hf).trans ?_
      refine (bind_eq hu).trans ?_
      rfl
    refine (if_pos g1).trans ?_
    refine (if_pos g2).trans ?_
    refine (bind_eq hw).trans ?_
    refine (bind_eq (thr_ex (x := 0) et)).trans ?_
    refine (if_pos rfl).trans ?_
    refine (if_pos rfl).trans ?_
    refine (if_pos (show lg_cmp _ _ = 0 by rw [← hv]; exact lgc_r _)).trans ?_
    refine (if_pos ev).trans ?_
    exact hr _ _ _ _ _ e2
