def dkQ (o o' : ob_mDesk) : Prop := fd_mDesk_size o' = fd_mDesk_size o ∧ fd_mDesk_orientation o' = fd_mDesk_orientation o ∧ fd_mDesk_copies o' = fd_mDesk_copies o ∧ fd_mDesk_width o' = fd_mDesk_width o ∧ fd_mDesk_height o' = fd_mDesk_height o ∧ fd_mDesk_glyphs o' = fd_mDesk_glyphs o ∧ fd_mDesk_allGlyphs o' = fd_mDesk_allGlyphs o ∧ fd_mDesk_touched o' = fd_mDesk_touched o ∧ fd_mDesk_pages o' = fd_mDesk_pages o
theorem dkQ_refl (o : ob_mDesk) : dkQ o o := ⟨rfl, rfl, rfl, rfl, rfl, rfl, rfl, rfl, rfl⟩
theorem dkQ_trans {a b c : ob_mDesk} (h : dkQ a b) (k : dkQ b c) : dkQ a c := by
  obtain ⟨h1, h2, h3, h4, h5, h6, h7, h8, h9⟩ := h
  obtain ⟨k1, k2, k3, k4, k5, k6, k7, k8, k9⟩ := k
  exact ⟨k1.trans h1, k2.trans h2, k3.trans h3, k4.trans h4, k5.trans h5, k6.trans h6, k7.trans h7, k8.trans h8, k9.trans h9⟩
theorem dkQ_G {a b : ob_mDesk} (h : dkG a b) : dkQ a b := by
  obtain ⟨h1, h2, h3, h4, h5, h6, h7, h8, h9, h10⟩ := h
  exact ⟨h1, h2, h3, h4, h5, h7, h8, h9, h10⟩
/-- does a byte end a sequence -/
def enB (om om' : ob_mDesk) : Bool := decide (¬ fd_mDesk_phase om ≤ 1) && decide (fd_mDesk_phase om' ≤ 1)
def evQ (e : Bool) : Int32 := if e then 8 else 0
/-- nothing but the parsers -/
def oQ (N b : Nat) (o : ob_Parser) (gd : Nat → Int32) (om : ob_mDesk) (g gp st gg go gs : Nat → Int32) : Prop := ∃ o' gd' om' go' gs', ex_Parser_take N o gd (nI b) = some (o', gd', evQ (enB om om')) ∧ (∀ k r cp p, k < 5 → pOK k r p → dkM k r cp p om g → ∃ g', ex_mDesk_comes N om g gp st gg go gs (nI b) = some (om', g', gp, gg, go', gs') ∧ dkM k r cp p om' g') ∧ psR o' gd' om' go' gs' ∧ dkQ om om' ∧ fd_mDesk_came om' = 0 ∧ (fd_mDesk_others om' = 0 ∨ ¬ go' 6 = 0)
/-- a character -/
def oC (N b : Nat) (o : ob_Parser) (gd : Nat → Int32) (om : ob_mDesk) (g gp st gg go gs : Nat → Int32) : Prop := ∃ (o' : ob_Parser) (om1 : ob_mDesk) (w : ob_mDesk → ob_mDesk) (e : Bool), ex_Parser_take N o gd (nI b) = some (o', gd, if e then 9 else 1) ∧ fd_Parser_taken o' = nI b ∧ ex_mDesk_comes N om g gp st gg go gs (nI b) = (ex_mDesk_character N om1 st g gp gg (nI b)).bind (fun u => some (w u.1, u.2.1, u.2.2.1, u.2.2.2, go, gs)) ∧ dkQ om om1 ∧ fd_mDesk_came om1 = 0 ∧ ∀ u, dkF om1 u → psR o' gd (w u) go gs ∧ dkG u (w u) ∧ fd_mDesk_cameX (w u) = fd_mDesk_cameX u ∧ fd_mDesk_cameY (w u) = fd_mDesk_cameY u ∧ fd_mDesk_others (w u) = 0 ∧ enB om (w u) = e
/-- a control code -/
def oT (N b : Nat) (o : ob_Parser) (gd : Nat → Int32) (om : ob_mDesk) (g gp st gg go gs : Nat → Int32) : Prop := b < 32 ∧ ∃ (o' : ob_Parser), ex_Parser_take N o gd (nI b) = some (o', gd, 2) ∧ fd_Parser_taken o' = nI b ∧ ex_mDesk_comes N om g gp st gg go gs (nI b) = (ex_mDesk_control N (cm0 om) g gp (nI b)).bind (fun u => some (u.1, u.2.1, u.2.2, gg, go, gs)) ∧ fd_mDesk_phase om ≤ 1 ∧ ∀ u, dkF (cm0 om) u → psR o' gd u go gs ∧ fd_mDesk_others u = 0
/-- a short sequence -/
def oS (N b : Nat) (o : ob_Parser) (gd : Nat → Int32) (om : ob_mDesk) (g gp st gg go gs : Nat → Int32) : Prop := ∃ (o' : ob_Parser), ex_Parser_take N o gd (nI b) = some (o', gd, 3) ∧ fd_Parser_taken o' = nI b ∧ ex_mDesk_comes N om g gp st gg go gs (nI b) = (ex_mDesk_shortSequence N (fs_mDesk_phase (cm0 om) 0) g gp (nI b)).bind (fun u => some (u.1, u.2.1, u.2.2, gg, go, gs)) ∧ fd_mDesk_phase om ≤ 1 ∧ ∀ u, dkF (fs_mDesk_phase (cm0 om) 0) u → psR o' gd u go gs ∧ fd_mDesk_others u = 0
/-- a command without data -/
def oM (N b : Nat) (o : ob_Parser) (gd : Nat → Int32) (om : ob_mDesk) (g gp st gg go gs : Nat → Int32) : Prop := ∃ (o' : ob_Parser) (om1 : ob_mDesk) (f gr e ph sg wh bh pl : Nat) (la : Bool), ex_Parser_take N o gd (nI b) = some (o', gd, if la then 12 else 4) ∧ ex_mDesk_comes N om g gp st gg go gs (nI b) = (ex_mDesk_command N om1 g gp go (nI e) (nI la.toNat)).bind (fun u => some (u.1, u.2.1, u.2.2.1, gg, u.2.2.2, gs)) ∧ dkQ om om1 ∧ fd_mDesk_came om1 = 0 ∧ psN om1 ∧ psG f gr o' om1 ∧ e < 256 ∧ fldN ph sg wh bh pl ∧ fldM ph sg wh bh pl om1 ∧ fldC 0 0 0 0 0 o' ∧ fd_Parser_mode o' = (if la then 0 else 3) ∧ fd_Parser_end o' = nI e ∧ fd_Parser_value o' = iI (vOf sg wh bh pl) ∧ fd_Parser_signed o' = nI (decide (sg ≠ 0)).toNat ∧ fd_Parser_dataCount o' = 0 ∧ (e = 87 → nOf sg wh = 0) ∧ (f = 38 ∧ gr = 112 ∧ e = 88 → nOf sg wh = 0) ∧ ¬ fd_mDesk_phase om ≤ 1
/-- the last byte of a command's data -/
def oD (N b : Nat) (o : ob_Parser) (gd : Nat → Int32) (om : ob_mDesk) (g gp st gg go gs : Nat → Int32) : Prop := ∃ (o' : ob_Parser) (gd' : Nat → Int32) (om' : ob_mDesk) (go' gs' : Nat → Int32) (f gr m : Nat) (v : Int) (sg la : Bool), ex_Parser_take N o gd (nI b) = some (o', gd', if la then 12 else 4) ∧ ex_mDesk_comes N om g gp st gg go gs (nI b) = some (om', g, gp, gg, go', gs') ∧ dkQ om om' ∧ fd_mDesk_came om' = 0 ∧ fd_mDesk_others om' = 1 ∧ fd_mDesk_stored om' = nI m ∧ psG f gr o' om' ∧ fldM 0 0 0 0 0 om' ∧ fldC 0 0 0 0 0 o' ∧ fd_Parser_mode o' = (if la then 0 else 3) ∧ fd_mDesk_phase om' = (if la then 0 else 3) ∧ fd_Parser_end o' = 87 ∧ fd_Parser_value o' = iI v ∧ fd_Parser_signed o' = nI sg.toNat ∧ (-327679999 ≤ v ∧ v ≤ 327679999 ∧ (sg = false → 0 ≤ v)) ∧ fd_Parser_dataCount o' = nI m ∧ dtR m gd' gs' ∧ go' 0 = nI f ∧ go' 1 = nI gr ∧ go' 2 = iI v ∧ go' 3 = 87 ∧ go' 5 = nI m ∧ go' 6 = 0 ∧ ¬ fd_mDesk_phase om ≤ 1
/-- an escape that ends a sequence, and is taken once more -/
def oA (N b : Nat) (o : ob_Parser) (gd : Nat → Int32) (om : ob_mDesk) : Prop := b = 27 ∧ (fd_mDesk_phase om = 2 ∨ fd_mDesk_phase om = 3) ∧ psN om ∧ ∃ o', ex_Parser_take N o gd (nI b) = some (o', gd, 24) ∧ fd_Parser_mode o' = 0
theorem dkM_Q {k r cp : Nat} {p : Nat → Nat} {o o' : ob_mDesk} {g : Nat → Int32} (h : dkM k r cp p o g) (q : dkQ o o') : dkM k r cp p o' g := dkM_ob h q.1 q.2.1 q.2.2.1 q.2.2.2.1 q.2.2.2.2.1
theorem psN_F {a b : ob_mDesk} (h : dkF a b) (k : psN a) : psN b := by
  obtain ⟨h1, h2, h3, h4, h5, h6, h7, h8, h9, h10, h11, h12, h13, h14⟩ := h
  exact ⟨h13.trans k.1, h14.trans k.2⟩
theorem tk_c0 {N b : Nat} {o : ob_Parser} {gd : Nat → Int32} {om : ob_mDesk} {g gp st gg go gs : Nat → Int32} (h : psA 0 o om) (hn : psN om) (hb : b < 256) : oQ N b o gd om g gp st gg go gs ∨ oC N b o gd om g gp st gg go gs ∨ oT N b o gd om g gp st gg go gs := by
  have hp : fd_mDesk_phase om = 0 := h.2
  have hm : fd_Parser_mode o = 0 := h.1
  have pl : fd_mDesk_phase om ≤ 1 := by rw [hp]; decide
  by_cases q : b = 27
  · refine Or.inl ⟨fs_Parser_mode (fs_Parser_taken o (nI b)) 1, gd, cm0 (fs_mDesk_phase om 1), go, gs, ?_, fun k r cp p hk hp9 hM => ⟨g, ?_, dkM_Q hM (dkQ_refl _)⟩, Or.inr (Or.inl ⟨⟨rfl, rfl⟩, hn⟩), dkQ_refl _, rfl, Or.inl hn.1⟩
    · rw [tk_0 hm hb, if_pos q]
      have : enB om (cm0 (fs_mDesk_phase om 1)) = false := by unfold enB; rw [decide_eq_false (fun z => z pl)]; rfl
      rw [this]; rfl
    · rw [cm_0 hp hb, if_pos q]
  · by_cases q2 : b < 32
    · refine Or.inr (Or.inr ⟨q2, fs_Parser_taken o (nI b), ?_, rfl, ?_, pl, fun u hu => ?_⟩)
      · rw [tk_0 hm hb, if_neg q, if_pos q2]
      · rw [cm_0 hp hb, if_neg q, if_pos q2]
      · have hN := psN_F hu (show psN (cm0 om) from hn)
        exact ⟨Or.inl ⟨⟨hm, hu.1.trans hp⟩, hN⟩, hN.1⟩
    · refine Or.inr (Or.inl ⟨fs_Parser_taken o (nI b), cm0 om, id, false, ?_, rfl, ?_, dkQ_refl _, rfl, fun u hu => ?_⟩)
      · rw [tk_0 hm hb, if_neg q, if_neg q2]; rfl
      · rw [cm_0 hp hb, if_neg q, if_neg q2]; rfl
      · have hN := psN_F hu (show psN (cm0 om) from hn)
        refine ⟨Or.inl ⟨⟨hm, hu.1.trans hp⟩, hN⟩, ⟨rfl, rfl, rfl, rfl, rfl, rfl, rfl, rfl, rfl, rfl⟩, rfl, rfl, hN.1, ?_⟩
        unfold enB; rw [decide_eq_false (fun z => z pl)]; rfl
theorem tk_c1 {N b : Nat} {o : ob_Parser} {gd : Nat → Int32} {om : ob_mDesk} {g gp st gg go gs : Nat → Int32} (h : psA 1 o om) (hn : psN om) (hb : b < 256) : oQ N b o gd om g gp st gg go gs ∨ oS N b o gd om g gp st gg go gs := by
  have hp : fd_mDesk_phase om = 1 := h.2
  have hm : fd_Parser_mode o = 1 := h.1
  have pl : fd_mDesk_phase om ≤ 1 := by rw [hp]; decide
  have en : ∀ om', enB om om' = false := fun om' => by unfold enB; rw [decide_eq_false (fun z => z pl)]; rfl
  by_cases q : b = 27
  · refine Or.inl ⟨fs_Parser_taken o (nI b), gd, fs_mDesk_phase (cm0 om) 1, go, gs, ?_, fun k r cp p hk hp9 hM => ⟨g, ?_, dkM_Q hM (dkQ_refl _)⟩, Or.inr (Or.inl ⟨⟨hm, rfl⟩, hn⟩), dkQ_refl _, rfl, Or.inl hn.1⟩
    · rw [tk_1 hm hb, if_pos q, en]; rfl
    · rw [cm_1 hp, be_go hb, if_pos q]; rfl
  · by_cases q1 : 33 ≤ b ∧ b ≤ 47
    · refine Or.inl ⟨fs_Parser_family (fs_Parser_mode (fs_Parser_taken o (nI b)) 2) (nI b), gd, fs_mDesk_group (fs_mDesk_family (fs_mDesk_phase (cm0 om) 2) (nI b)) 0, go, gs, ?_, fun k r cp p hk hp9 hM => ⟨g, ?_, dkM_Q hM (dkQ_refl _)⟩, Or.inr (Or.inr (Or.inl ⟨b, ⟨⟨rfl, rfl⟩, hn, ⟨by omega, hb⟩, rfl, rfl, rfl⟩⟩)), dkQ_refl _, rfl, Or.inl hn.1⟩
      · rw [tk_1 hm hb, if_neg q, if_pos q1, en]; rfl
      · rw [cm_1 hp, be_go hb, if_neg q, if_pos q1]; rfl
    · by_cases q2 : 48 ≤ b ∧ b ≤ 126
      · refine Or.inr ⟨fs_Parser_mode (fs_Parser_taken o (nI b)) 0, ?_, rfl, ?_, pl, fun u hu => ?_⟩
        · rw [tk_1 hm hb, if_neg q, if_neg q1, if_pos q2]
        · rw [cm_1 hp, be_go hb, if_neg q, if_neg q1, if_pos q2]
        · have hN := psN_F hu (show psN (fs_mDesk_phase (cm0 om) 0) from hn)
          exact ⟨Or.inl ⟨⟨rfl, hu.1⟩, hN⟩, hN.1⟩
      · refine Or.inl ⟨fs_Parser_mode (fs_Parser_taken o (nI b)) 0, gd, fs_mDesk_phase (cm0 om) 0, go, gs, ?_, fun k r cp p hk hp9 hM => ⟨g, ?_, dkM_Q hM (dkQ_refl _)⟩, Or.inl ⟨⟨rfl, rfl⟩, hn⟩, dkQ_refl _, rfl, Or.inl hn.1⟩
        · rw [tk_1 hm hb, if_neg q, if_neg q1, if_neg q2, en]; rfl
        · rw [cm_1 hp, be_go hb, if_neg q, if_neg q1, if_neg q2]; rfl
theorem kn_87 (f gr : Nat) : knB f gr 87 = false := by
  unfold knB
  repeat (split; rfl)
  rfl
theorem cmd_87 (f gr k r n : Nat) (v : Int) (sg : Bool) (p : Nat → Nat) : cmdN f gr 87 k r p n v sg = p := by
  unfold cmdN
  by_cases a1 : f = 38 ∧ gr = 108
  · rw [if_pos a1]; rfl
  rw [if_neg a1]
  by_cases a2 : f = 38 ∧ gr = 107
  · rw [if_pos a2]; rfl
  rw [if_neg a2]
  by_cases a3 : f = 38 ∧ gr = 97
  · rw [if_pos a3]; rfl
  rw [if_neg a3]
  by_cases a4 : f = 38 ∧ gr = 115
  · rw [if_pos a4]; rfl
  rw [if_neg a4]
  by_cases a5 : f = 38 ∧ gr = 102
  · rw [if_pos a5]; rfl
  rw [if_neg a5]
  by_cases a6 : f = 42 ∧ gr = 112
  · rw [if_pos a6]; rfl
  rw [if_neg a6]
theorem ps_le {a : Nat} (h : 2 ≤ a) (h2 : a ≤ 4) : ¬ nI a ≤ 1 := nI_ge (a := 1) (by omega) (by omega)
/-- a byte of a field -/
theorem fl_c {N b f gr : Nat} {o o2 : ob_Parser} {gd : Nat → Int32} {om om2 : ob_mDesk} {g gp st gg go gs : Nat → Int32} (hN : 10 < N) (hb : b < 256) (h3 : ps3 f gr o2 om2) (ht : ex_Parser_take N o gd (nI b) = (ex_Parser_takeField N o2 (nI b)).bind (fun u => some (u.1, gd, u.2))) (hc : ex_mDesk_comes N om g gp st gg go gs (nI b) = (ex_mDesk_field N om2 g gp go (nI b)).bind (fun u => some (u.1, u.2.1, u.2.2.1, gg, u.2.2.2, gs))) (hq : dkQ om om2) (hcm : fd_mDesk_came om2 = 0) (hph : fd_mDesk_phase om = 2 ∨ fd_mDesk_phase om = 3) (hnm : psN om) :
    oQ N b o gd om g gp st gg go gs ∨ oM N b o gd om g gp st gg go gs ∨ oA N b o gd om := by
  obtain ⟨⟨a1, a2⟩, hn, ⟨bf, bg, f1, f2, g1, g2⟩, ph, sg, wh, bh, pl, hN2, hC, hM2⟩ := h3
  have npl : ¬ fd_mDesk_phase om ≤ 1 := by rcases hph with h | h <;> (rw [h]; decide)
  cases hk : fldK b ph with
  | true =>
    left
    obtain ⟨ph', sg', wh', bh', pl', o', om', t1, t2, t3, t4, t5, t6, t7, t8⟩ := fld_go (N := N) (g := g) (gp := gp) (go := go) hN2 hC hM2 hb hk
    obtain ⟨u1, u2, u3, u4⟩ := t6
    obtain ⟨v1, v2, v3, v4, v5⟩ := t8
    have hp' : fd_mDesk_phase om' = 3 := v1.trans a2
    refine ⟨o', gd, om', go, gs, ?_, fun k r cp p hk5 hp9 hM => ⟨g, ?_, dkM_Q hM (dkQ_trans hq (dkQ_G t7))⟩, Or.inr (Or.inr (Or.inr (Or.inl ⟨f, gr, ⟨u1.trans a1, hp'⟩, ⟨v4.trans hn.1, v5.trans hn.2⟩, ⟨bf, bg, u3.trans f1, v2.trans f2, u4.trans g1, v3.trans g2⟩, ph', sg', wh', bh', pl', t3, t4, t5⟩))), dkQ_trans hq (dkQ_G t7), t7.2.2.2.2.2.1.trans hcm, Or.inl (v4.trans hn.1)⟩
    · have he : enB om om' = false := by unfold enB; rw [hp', decide_eq_false (show ¬ ((3 : Int32) ≤ 1) by decide), Bool.and_false]
      rw [ht, t1, he]; rfl
    · rw [hc, t2]; rfl
  | false =>
    cases he : fendB b with
    | false =>
      obtain ⟨t1, t2⟩ := fld_stop (N := N) (g := g) (gp := gp) (go := go) hN2 hC hM2 hb hk he
      by_cases q : b = 27
      · right; right
        refine ⟨q, hph, hnm, fs_Parser_mode o2 0, ?_, rfl⟩
        rw [ht, t1, if_pos q]; rfl
      · left
        refine ⟨fs_Parser_mode o2 0, gd, fs_mDesk_phase om2 0, go, gs, ?_, fun k r cp p hk5 hp9 hM => ⟨g, ?_, dkM_Q hM hq⟩, Or.inl ⟨⟨rfl, rfl⟩, hn⟩, hq, hcm, Or.inl hn.1⟩
        · have hen : enB om (fs_mDesk_phase om2 0) = true := by
            unfold enB; rw [decide_eq_true npl]; rfl
          rw [ht, t1, if_neg q, hen]; rfl
        · rw [hc, t2, if_neg q]; rfl
    | true =>
      have t1 := fld_endC (N := N) hN2 hC hb hk he f1 g1 bf.2 bg
      have hfd : ex_mDesk_field N om2 g gp go (nI b) = _ := fld_field (N := N) (g := g) (gp := gp) (go := go) hN2 hM2 he
      have hn3 : wh ≤ 32767 := hN2.2.2.1
      have hnof : nOf sg wh ≤ 32767 := by unfold nOf; split <;> omega
      have hvb := vOf_bound hN2
      have heb : eOf b < 256 := by unfold eOf; split <;> omega
      have pE := pEnd o2 b sg wh bh pl
      by_cases q1 : 0 < nOf sg wh ∧ (f = 38 ∧ gr = 112 ∧ eOf b = 88)
      · -- a text begins
        left
        obtain ⟨q0, rfl, rfl, qe⟩ := q1
        have hT := md_cmdT (N := N) (la := laOf b) (g := g) (gp := gp) (go := go) hN hN2 hM2 f2 g2
        have hph4 : phD (nOf sg wh) (laOf b) = 4 := if_pos q0
        refine ⟨fs_Parser_mode (pEnd o2 b sg wh bh pl) 5, gd, fs_mDesk_phase (mBeg (fs_mDesk_dataTo (fs_mDesk_last (fs_mDesk_dataLeft om2 (nI (nOf sg wh))) (nI (laOf b).toNat)) 1)) (phD (nOf sg wh) (laOf b)), go, gs, ?_, fun k r cp p hk5 hp9 hM => ⟨g, ?_, dkM_Q hM hq⟩, Or.inr (Or.inr (Or.inr (Or.inr (Or.inr ⟨nOf sg wh, laOf b, ⟨⟨rfl, hph4⟩, hn, ⟨by omega, by omega, f1, f2, g1, g2⟩, ⟨rfl, rfl, rfl, rfl, rfl⟩, mBeg_M _, q0, hnof, rfl, rfl, rfl, rfl, rfl⟩⟩)))), hq, hcm, Or.inl hn.1⟩
        · have hen : enB om (fs_mDesk_phase (mBeg (fs_mDesk_dataTo (fs_mDesk_last (fs_mDesk_dataLeft om2 (nI (nOf sg wh))) (nI (laOf b).toNat)) 1)) (phD (nOf sg wh) (laOf b))) = false := by
            unfold enB; rw [hph4]; exact Bool.and_false _
          rw [ht, t1, if_pos ⟨q0, rfl, rfl, qe⟩, hen]; rfl
        · rw [hc, hfd, qe, hT]; rfl
      · by_cases q2 : 0 < nOf sg wh ∧ eOf b = 87
        · -- data will come
          left
          have ht3 : ¬ (f = 38 ∧ gr = 112 ∧ eOf b = 88) := fun h => by omega
          have hph4 : phD (nOf sg wh) (laOf b) = 4 := if_pos q2.1
          obtain ⟨omx, homx⟩ : ∃ omx, omx = fs_mDesk_dataTo (fs_mDesk_last (fs_mDesk_dataLeft om2 (nI (nOf sg wh))) (nI (laOf b).toNat)) 0 := ⟨_, rfl⟩
          have fx : fd_mDesk_family omx = nI f := by rw [homx]; exact f2
          have gx : fd_mDesk_group omx = nI gr := by rw [homx]; exact g2
          have sx : fd_mDesk_signed omx = nI (decide (sg ≠ 0)).toNat := by rw [homx]; exact hM2.2.1
          have ox : fd_mDesk_others omx = 0 := by rw [homx]; exact hn.1
          obtain ⟨go', d1, d2, d3, d4, d5, d6, d7, d8⟩ := md_hand (N := N) (e := 87) (v := iI (vOf sg wh bh pl)) (go := go) ox (by rw [sx]; exact bt_bool _)
          obtain ⟨om', hom'⟩ : ∃ om', om' = fs_mDesk_phase (mBeg (fs_mDesk_others (fs_mDesk_dataTo omx 2) 1)) (phD (nOf sg wh) (laOf b)) := ⟨_, rfl⟩
          have qx : dkQ om om' := by rw [hom', homx]; exact hq
          refine ⟨fs_Parser_mode (pEnd o2 b sg wh bh pl) 4, gd, om', go', gs, ?_, fun k r cp p hk5 hp9 hM => ?_, Or.inr (Or.inr (Or.inr (Or.inr (Or.inl ⟨f, gr, 87, 0, nOf sg wh, vOf sg wh bh pl, decide (sg ≠ 0), laOf b, ?_⟩)))), qx, by rw [hom', homx]; exact hcm, Or.inr ?_⟩
          · have hen : enB om om' = false := by unfold enB; rw [hom', hph4]; exact Bool.and_false _
            rw [ht, t1, if_neg q1, if_pos q2, hen]; rfl
          · have hMx : dkM k r cp p omx g := by rw [homx]; exact dkM_Q hM hq
            obtain ⟨g', k1, k2⟩ := md_knownP (N := N) (gp := gp) (n := nOf sg wh) (v := vOf sg wh bh pl) (sg := decide (sg ≠ 0)) hk5 hp9 hMx fx gx bf.2 bg (show 87 < 256 by omega) sx hvb vOf_pos hnof (fun h => by omega)
            rw [kn_87] at k1
            have hcn : cmdN f gr 87 k r p (nOf sg wh) (vOf sg wh bh pl) (decide (sg ≠ 0)) = p := cmd_87 _ _ _ _ _ _ _ _
            rw [hcn] at k2
            have hcmd := md_cmd (N := N) (la := laOf b) (g := g) (gp := gp) (go := go) hN hN2 hM2 f2 g2 bf.2 bg (show eOf b < 256 from heb) ht3
            rw [q2.2] at hcmd
            have hcmd' : ex_mDesk_command N om2 g gp go (nI 87) (nI (laOf b).toNat) = some (om', g', gp, go') := by
              rw [hcmd, if_pos rfl, ← homx]
              refine (bind_eq k1).trans ?_
              refine (if_pos rfl).trans ?_
              refine (bind_eq d1).trans ?_
              have h115 := md_115 (N := N) (dl := nOf sg wh) (la := laOf b) (go := go') (g := g') (gp := gp) (o := fs_mDesk_others (fs_mDesk_dataTo omx 2) 1) (by rw [homx]) hnof
              rw [hom']; exact h115
            refine ⟨g', ?_, ?_⟩
            · rw [hc, hfd, q2.2, hcmd']; rfl
            · rw [hom']; exact dkM_Q k2 ⟨rfl, rfl, rfl, rfl, rfl, rfl, rfl, rfl, rfl⟩
          · subst hom' homx
            exact ⟨⟨rfl, hph4⟩, ⟨bf, bg, f1, f2, g1, g2⟩, ⟨rfl, rfl, rfl, rfl, rfl⟩, mBeg_M _, ⟨q2.1, hnof, rfl, hvb.1, hvb.2, vOf_pos⟩, by show nI (eOf b) = _; rw [q2.2], rfl, rfl, rfl, rfl, rfl, ⟨by omega, fun i hi => absurd hi (by omega)⟩, rfl, hn.2, rfl, rfl, rfl, d2.trans f2, d3.trans g2, d4, d5, d7, d8⟩
          · rw [d8, homx]
            show ¬ nI (nOf sg wh) = 0
            exact mt (nI_eq (b := 0) (by omega) (by omega)).mp (by omega)
        · -- a command
          right; left
          refine ⟨fs_Parser_mode (pEnd o2 b sg wh bh pl) (if laOf b then 0 else 3), om2, f, gr, eOf b, ph, sg, wh, bh, pl, laOf b, ?_, ?_, hq, hcm, hn, ⟨bf, bg, f1, f2, g1, g2⟩, heb, hN2, hM2, ⟨rfl, rfl, rfl, rfl, rfl⟩, rfl, rfl, rfl, rfl, rfl, fun h => ?_, fun h => ?_, npl⟩
          · rw [ht, t1, if_neg q1, if_neg q2]; rfl
          · rw [hc, hfd]
            cases ex_mDesk_command N om2 g gp go (nI (eOf b)) (nI (laOf b).toNat) with
            | none => rfl
            | some u => rfl
          · cases hz : nOf sg wh with
            | zero => rfl
            | succ z => exact absurd ⟨by omega, h⟩ q2
          · cases hz : nOf sg wh with
            | zero => rfl
            | succ z => exact absurd ⟨by omega, h⟩ q1
theorem or_1 (la : Bool) : (1 : Int32) ||| (if la = true then 8 else 0) = if la = true then 9 else 1 := by cases la <;> decide
theorem or_4 (la : Bool) : (4 : Int32) ||| (if la = true then 8 else 0) = if la = true then 12 else 4 := by cases la <;> decide
theorem tk_c2 {N b f : Nat} {o : ob_Parser} {gd : Nat → Int32} {om : ob_mDesk} {g gp st gg go gs : Nat → Int32} (hN : 10 < N) (h : ps2 f o om) (hb : b < 256) : oQ N b o gd om g gp st gg go gs ∨ oM N b o gd om g gp st gg go gs ∨ oA N b o gd om := by
  obtain ⟨⟨a1, a2⟩, hn, bf, f1, f2, g2⟩ := h
  have a1' : fd_Parser_mode o = 2 := a1
  have a2' : fd_mDesk_phase om = 2 := a2
  by_cases q : 96 ≤ b ∧ b ≤ 126
  · left
    refine ⟨fs_Parser_group (pBeg (fs_Parser_taken (fs_Parser_mode o 3) (nI b))) (nI b), gd, mBeg (cm0 (fs_mDesk_group (fs_mDesk_phase om 3) (nI b))), go, gs, ?_, fun k r cp p hk hp9 hM => ⟨g, ?_, dkM_Q hM (dkQ_refl _)⟩, Or.inr (Or.inr (Or.inr (Or.inl ⟨f, b, ⟨rfl, rfl⟩, hn, ⟨bf, hb, f1, f2, rfl, rfl⟩, 0, 0, 0, 0, 0, fld_0, pBeg_C _, mBeg_M _⟩))), dkQ_refl _, rfl, Or.inl hn.1⟩
    · rw [tk_2g a1' q]
      have : enB om (mBeg (cm0 (fs_mDesk_group (fs_mDesk_phase om 3) (nI b)))) = false := Bool.and_false _
      rw [this]; rfl
    · rw [cm_2g a2' q]
  · exact fl_c (o2 := fs_Parser_group (pBeg (fs_Parser_taken (fs_Parser_mode o 3) (nI b))) 0) (om2 := mBeg (cm0 (fs_mDesk_phase om 3))) (f := f) (gr := 0) hN hb ⟨⟨rfl, rfl⟩, hn, ⟨bf, by omega, f1, f2, rfl, g2⟩, 0, 0, 0, 0, 0, fld_0, pBeg_C _, mBeg_M _⟩ (tk_2 a1' hb q) (cm_2 a2' hb q) (dkQ_refl _) rfl (Or.inl a2') hn
theorem tk_c3 {N b f gr : Nat} {o : ob_Parser} {gd : Nat → Int32} {om : ob_mDesk} {g gp st gg go gs : Nat → Int32} (hN : 10 < N) (h : ps3 f gr o om) (hb : b < 256) : oQ N b o gd om g gp st gg go gs ∨ oM N b o gd om g gp st gg go gs ∨ oA N b o gd om := by
  have hn := h.2.1
  have a2 : fd_mDesk_phase om = 3 := h.1.2
  exact fl_c (o2 := fs_Parser_taken o (nI b)) (om2 := cm0 om) hN hb h (tk_3 h.1.1) (cm_3 a2) (dkQ_refl _) rfl (Or.inr a2) hn
def wTx (u : ob_mDesk) : ob_mDesk := if fd_mDesk_dataLeft u ≤ 0 then (if fd_mDesk_last u = 0 then fs_mDesk_phase u 3 else fs_mDesk_phase u 0) else fs_mDesk_phase u 4
theorem tk_c5 {N b dl : Nat} {la : Bool} {o : ob_Parser} {gd : Nat → Int32} {om : ob_mDesk} {g gp st gg go gs : Nat → Int32} (h : ps5 dl la o om) (hb : b < 256) : oC N b o gd om g gp st gg go gs := by
  obtain ⟨⟨a1, a2⟩, hn, ⟨bf, bg, f1, f2, g1, g2⟩, hC, hM, hd1, hd2, c1, c2, m1, m2, m3⟩ := h
  have a2' : fd_mDesk_phase om = 4 := a2
  have ed : nI dl - 1 = nI (dl - 1) := nI_sub (b := 1) hd1
  have hcomes : ex_mDesk_comes N om g gp st gg go gs (nI b) = (ex_mDesk_character N (fs_mDesk_dataLeft (cm0 om) (nI (dl - 1))) st g gp gg (nI b)).bind (fun u => some (wTx u.1, u.2.1, u.2.2.1, u.2.2.2, go, gs)) := by
    rw [cm_4 a2']
    unfold ex_mDesk_datum
    rw [if_pos (show fd_mDesk_dataTo (cm0 om) = 1 from m1), show fd_mDesk_dataLeft (cm0 om) - 1 = nI (dl - 1) from by rw [show fd_mDesk_dataLeft (cm0 om) = nI dl from m2, ed]]
    cases ex_mDesk_character N (fs_mDesk_dataLeft (cm0 om) (nI (dl - 1))) st g gp gg (nI b) with
    | none => rfl
    | some u =>
      simp only [Option.bind_some]
      unfold wTx
      by_cases q1 : fd_mDesk_dataLeft u.1 ≤ 0
      · rw [if_pos q1, if_pos q1]
        by_cases q2 : fd_mDesk_last u.1 = 0
        · rw [if_pos q2, if_pos q2]; rfl
        · rw [if_neg q2, if_neg q2]; rfl
      · rw [if_neg q1, if_neg q1]; rfl
  have npl : ¬ fd_mDesk_phase om ≤ 1 := by rw [a2']; decide
  have htk : ex_Parser_take N o gd (nI b) = some (if dl = 1 then fs_Parser_mode (fs_Parser_dataLeft (fs_Parser_taken o (nI b)) (nI (dl - 1))) (if la then 0 else 3) else fs_Parser_dataLeft (fs_Parser_taken o (nI b)) (nI (dl - 1)), gd, if (decide (dl = 1) && la) = true then 9 else 1) := by
    rw [tk_5 a1]
    unfold ex_Parser_takeText
    rw [show fd_Parser_dataLeft (fs_Parser_taken o (nI b)) - 1 = nI (dl - 1) from by rw [show fd_Parser_dataLeft (fs_Parser_taken o (nI b)) = nI dl from c1, ed]]
    by_cases q : dl = 1
    · rw [if_pos (show nI (dl - 1) ≤ 0 by rw [q]; decide), if_pos q, fld_fin (la := la) (show fd_Parser_last (fs_Parser_dataLeft (fs_Parser_taken o (nI b)) (nI (dl - 1))) = nI la.toNat from c2), decide_eq_true q]
      simp only [Option.bind_some]
      rw [or_1]; cases la <;> rfl
    · rw [if_neg (show ¬ nI (dl - 1) ≤ 0 from nI_ge (a := 0) (by omega) (by omega)), if_neg q, decide_eq_false q]; rfl
  refine ⟨_, fs_mDesk_dataLeft (cm0 om) (nI (dl - 1)), wTx, decide (dl = 1) && la, htk, ?_, hcomes, dkQ_refl _, rfl, fun u hu => ?_⟩
  · by_cases q : dl = 1
    · rw [if_pos q]
    · rw [if_neg q]
  · have hN := psN_F hu (show psN (fs_mDesk_dataLeft (cm0 om) (nI (dl - 1))) from hn)
    obtain ⟨h1, h2, h3, h4, h5, h6, h7, h8, h9, h10, h11, h12, h13, h14⟩ := hu
    have e10 : fd_mDesk_dataLeft u = nI (dl - 1) := h10
    have e11 : fd_mDesk_last u = nI la.toNat := h11.trans m3
    have hfm : fldM 0 0 0 0 0 u := by
      obtain ⟨x1, x2, x3, x4, x5, x6⟩ := hM
      exact ⟨h4.trans x1, h5.trans x2, h6.trans x3, h7.trans x4, h8.trans x5, h9.trans x6⟩
    by_cases q : dl = 1
    · have z1 : fd_mDesk_dataLeft u ≤ 0 := by rw [e10, q]; decide
      rw [if_pos q, decide_eq_true q]
      cases la with
      | true =>
        have ew : wTx u = fs_mDesk_phase u 0 := by unfold wTx; rw [if_pos z1, if_neg (by rw [e11]; decide)]
        rw [ew]
        refine ⟨Or.inl ⟨⟨rfl, rfl⟩, hN⟩, ⟨rfl, rfl, rfl, rfl, rfl, rfl, rfl, rfl, rfl, rfl⟩, rfl, rfl, hN.1, ?_⟩
        unfold enB; rw [decide_eq_true npl]; rfl
      | false =>
        have ew : wTx u = fs_mDesk_phase u 3 := by unfold wTx; rw [if_pos z1, if_pos (by rw [e11]; rfl)]
        rw [ew]
        refine ⟨Or.inr (Or.inr (Or.inr (Or.inl ⟨38, 112, ⟨rfl, rfl⟩, hN, ⟨bf, bg, f1, h2.trans f2, g1, h3.trans g2⟩, 0, 0, 0, 0, 0, fld_0, hC, hfm⟩))), ⟨rfl, rfl, rfl, rfl, rfl, rfl, rfl, rfl, rfl, rfl⟩, rfl, rfl, hN.1, ?_⟩
        exact Bool.and_false _
    · have z1 : ¬ fd_mDesk_dataLeft u ≤ 0 := by rw [e10]; exact nI_ge (a := 0) (by omega) (by omega)
      have ew : wTx u = fs_mDesk_phase u 4 := by unfold wTx; rw [if_neg z1]
      rw [if_neg q, decide_eq_false q, ew]
      refine ⟨Or.inr (Or.inr (Or.inr (Or.inr (Or.inr ⟨dl - 1, la, ⟨⟨a1, rfl⟩, hN, ⟨bf, bg, f1, h2.trans f2, g1, h3.trans g2⟩, hC, hfm, by omega, by omega, rfl, c2, h12.trans m1, e10, e11⟩⟩)))), ⟨rfl, rfl, rfl, rfl, rfl, rfl, rfl, rfl, rfl, rfl⟩, rfl, rfl, hN.1, ?_⟩
      exact Bool.and_false _
theorem tk_c4 {N b f gr e m dl : Nat} {v : Int} {sg la : Bool} {o : ob_Parser} {gd : Nat → Int32} {om : ob_mDesk} {g gp st gg go gs : Nat → Int32} (h : ps4 f gr e m dl v sg la o gd om go gs) (hb : b < 256) : oQ N b o gd om g gp st gg go gs ∨ oD N b o gd om g gp st gg go gs := by
  obtain ⟨⟨a1, a2⟩, ⟨bf, bg, f1, f2, g1, g2⟩, hC, hM, ⟨hd1, hd2, he, hv1, hv2, hv3⟩, c1, c2, c3, c4, c5, c6, hdt, m1, m2, m3, m4, m5, y0, y1, y2, y3, y5, y6⟩ := h
  have a2' : fd_mDesk_phase om = 4 := a2
  have npl : ¬ fd_mDesk_phase om ≤ 1 := by rw [a2']; decide
  have hm4 : m ≤ 4096 := hdt.1
  have ed : nI dl - 1 = nI (dl - 1) := nI_sub (b := 1) hd1
  subst he
  -- what both have behind the byte
  obtain ⟨m', hm'⟩ : ∃ m', m' = if m < 4096 then m + 1 else m := ⟨_, rfl⟩
  obtain ⟨gd', hgd'⟩ : ∃ gd', gd' = if m < 4096 then upd gd m (nI b).toInt8.toInt32 else gd := ⟨_, rfl⟩
  obtain ⟨gs', hgs'⟩ : ∃ gs', gs' = if m < 4096 then upd gs m (nI b).toInt8.toInt32 else gs := ⟨_, rfl⟩
  obtain ⟨go', hgo'⟩ : ∃ go', go' = if m < 4096 then upd (upd go 6 (nI (dl - 1))) 5 (nI (m + 1)) else upd go 6 (nI (dl - 1)) := ⟨_, rfl⟩
  have hdt' : dtR m' gd' gs' := by
    by_cases q : m < 4096
    · rw [hm', hgd', hgs', if_pos q, if_pos q, if_pos q]
      refine ⟨by omega, fun i hi => ?_⟩
      by_cases qi : i = m
      · subst qi; rw [pk_us, pk_us]; exact ⟨is8_to _, rfl⟩
      · rw [pk_un qi, pk_un qi]; exact hdt.2 i (by omega)
    · rw [hm', hgd', hgs', if_neg q, if_neg q, if_neg q]; exact hdt
  have go5 : go' 5 = nI m' := by
    by_cases q : m < 4096
    · rw [hgo', hm', if_pos q, if_pos q, pk_us]
    · rw [hgo', hm', if_neg q, if_neg q, pk_un (by decide)]; exact y5
  have go6 : go' 6 = nI (dl - 1) := by
    by_cases q : m < 4096
    · rw [hgo', if_pos q, pk_un (by decide), pk_us]
    · rw [hgo', if_neg q, pk_us]
  have goE : ∀ i, i < 4 → go' i = go i := fun i hi => by
    by_cases q : m < 4096
    · rw [hgo', if_pos q, pk_un (by omega), pk_un (by omega)]
    · rw [hgo', if_neg q, pk_un (by omega)]
  have e6 : 7 * fd_mDesk_others (cm0 om) - 7 + 6 = nI 6 := by rw [show fd_mDesk_others (cm0 om) = 1 from m1]; decide
  have e5 : 7 * fd_mDesk_others (cm0 om) - 7 + 5 = nI 5 := by rw [show fd_mDesk_others (cm0 om) = 1 from m1]; decide
  obtain ⟨ph, hph⟩ : ∃ ph : Int32, ph = if dl = 1 then (if la then 0 else 3) else 4 := ⟨_, rfl⟩
  obtain ⟨om', hom'⟩ : ∃ om', om' = fs_mDesk_stored (fs_mDesk_dataLeft (fs_mDesk_phase (cm0 om) ph) (nI (dl - 1))) (nI m') := ⟨_, rfl⟩
  have hst : ∀ z : ob_mDesk, fd_mDesk_stored z = nI m → fs_mDesk_stored z (nI m) = z := fun z hz => by rw [← hz]
  have hcomes : ex_mDesk_comes N om g gp st gg go gs (nI b) = some (om', g, gp, gg, go', gs') := by
    rw [cm_4 a2']
    unfold ex_mDesk_datum
    simp only [dk_let]
    rw [if_neg (show ¬ fd_mDesk_dataTo (cm0 om) = 1 by rw [show fd_mDesk_dataTo (cm0 om) = 2 from m3]; decide), if_pos (show fd_mDesk_dataTo (cm0 om) = 2 from m3), e6, e5, if_pos (dk_in_nI (show 6 < 112 by omega) (by omega)), if_pos (dk_in_nI (show 6 < 112 by omega) (by omega)), if_pos (dk_in_nI (show 5 < 112 by omega) (by omega)), if_pos (dk_in_nI (show 5 < 112 by omega) (by omega)), show (nI 6).toNatClampNeg = 6 from nI_clamp (by omega), show (nI 5).toNatClampNeg = 5 from nI_clamp (by omega), show fd_mDesk_dataLeft (cm0 om) = nI dl from m4, show fd_mDesk_stored (cm0 om) = nI m from m2, show fd_mDesk_last (cm0 om) = nI la.toNat from m5, y6, ed]
    have w5 : upd go 6 (nI (dl - 1)) 5 = nI m := by rw [pk_un (by decide)]; exact y5
    by_cases q : m < 4096
    · rw [if_neg (show ¬ (4096 : Int32) ≤ nI m from nI_ge (b := 4096) q (by omega)), if_pos (dk_in_nI q (by omega)), nI_clamp (by omega), w5, nI_1, hom', hgo', hgs', hm', if_pos q, if_pos q, if_pos q, hph]
      by_cases q1 : dl = 1
      · rw [if_pos (show nI (dl - 1) ≤ 0 by rw [q1]; decide), if_pos q1]
        cases la <;> rfl
      · rw [if_neg (show ¬ nI (dl - 1) ≤ 0 from nI_ge (a := 0) (by omega) (by omega)), if_neg q1]; rfl
    · rw [if_pos (show (4096 : Int32) ≤ nI m from nI_le (a := 4096) (by omega) (by omega)), hom', hgo', hgs', hm', if_neg q, if_neg q, if_neg q, hph]
      have hz := hst (fs_mDesk_dataLeft (fs_mDesk_phase (cm0 om) (if dl = 1 then (if la then 0 else 3) else 4)) (nI (dl - 1))) m2
      rw [hz]
      by_cases q1 : dl = 1
      · rw [if_pos (show nI (dl - 1) ≤ 0 by rw [q1]; decide), if_pos q1]
        cases la <;> rfl
      · rw [if_neg (show ¬ nI (dl - 1) ≤ 0 from nI_ge (a := 0) (by omega) (by omega)), if_neg q1]; rfl
  obtain ⟨o1, ho1⟩ : ∃ o1, o1 = fs_Parser_dataCount (fs_Parser_dataLeft (fs_Parser_taken o (nI b)) (nI (dl - 1))) (nI m') := ⟨_, rfl⟩
  have hsc : ∀ z : ob_Parser, fd_Parser_dataCount z = nI m → fs_Parser_dataCount z (nI m) = z := fun z hz => by rw [← hz]
  have lo1 : fd_Parser_last o1 = nI la.toNat := by rw [ho1]; exact c6
  have htk : ex_Parser_take N o gd (nI b) = some (if dl = 1 then fs_Parser_mode o1 (if la then 0 else 3) else o1, gd', if dl = 1 then (if la then 12 else 4) else 0) := by
    rw [tk_4 a1]
    unfold ex_Parser_takeData
    simp only [dk_let]
    rw [show fd_Parser_dataCount (fs_Parser_taken o (nI b)) = nI m from c5, show fd_Parser_dataLeft (fs_Parser_taken o (nI b)) - 1 = nI (dl - 1) from by rw [show fd_Parser_dataLeft (fs_Parser_taken o (nI b)) = nI dl from c4, ed]]
    by_cases q : m < 4096
    · have e1 : fs_Parser_dataCount (fs_Parser_dataLeft (fs_Parser_taken o (nI b)) (nI (dl - 1))) (nI (m + 1)) = o1 := by rw [ho1, hm', if_pos q]
      rw [if_neg (show ¬ (4096 : Int32) ≤ nI m from nI_ge (b := 4096) q (by omega)), if_pos (dk_in_nI q (by omega)), nI_clamp (by omega), nI_1, e1, hgd', if_pos q, fld_fin lo1]
      by_cases q1 : dl = 1
      · rw [if_pos (show nI (dl - 1) ≤ 0 by rw [q1]; decide), if_pos q1, if_pos q1]
        simp only [Option.bind_some]
        rw [or_4]
      · rw [if_neg (show ¬ nI (dl - 1) ≤ 0 from nI_ge (a := 0) (by omega) (by omega)), if_neg q1, if_neg q1]; rfl
    · have e1 : fs_Parser_dataLeft (fs_Parser_taken o (nI b)) (nI (dl - 1)) = o1 := by
        rw [ho1, hm', if_neg q]; exact (hsc (fs_Parser_dataLeft (fs_Parser_taken o (nI b)) (nI (dl - 1))) c5).symm
      rw [if_pos (show (4096 : Int32) ≤ nI m from nI_le (a := 4096) (by omega) (by omega)), e1, hgd', if_neg q, fld_fin lo1]
      by_cases q1 : dl = 1
      · rw [if_pos (show nI (dl - 1) ≤ 0 by rw [q1]; decide), if_pos q1, if_pos q1]
        simp only [Option.bind_some]
        rw [or_4]
      · rw [if_neg (show ¬ nI (dl - 1) ≤ 0 from nI_ge (a := 0) (by omega) (by omega)), if_neg q1, if_neg q1]; rfl
  have hQ : dkQ om om' := by rw [hom']; exact dkQ_refl _
  have hMx : fldM 0 0 0 0 0 om' := by rw [hom']; exact hM
  by_cases q1 : dl = 1
  · right
    rw [if_pos q1, if_pos q1] at htk
    rw [if_pos q1] at hph
    refine ⟨_, gd', om', go', gs', f, gr, m', v, sg, la, htk, hcomes, hQ, by rw [hom']; rfl, by rw [hom']; exact m1, by rw [hom'], ⟨bf, bg, by rw [ho1]; exact f1, by rw [hom']; exact f2, by rw [ho1]; exact g1, by rw [hom']; exact g2⟩, hMx, by rw [ho1]; exact hC, rfl, by rw [hom', hph], by rw [ho1]; exact c1, by rw [ho1]; exact c2, by rw [ho1]; exact c3, ⟨hv1, hv2, hv3⟩, by rw [ho1], hdt', (goE 0 (by omega)).trans y0, (goE 1 (by omega)).trans y1, (goE 2 (by omega)).trans y2, (goE 3 (by omega)).trans y3, go5, by rw [go6, q1]; rfl, npl⟩
  · left
    rw [if_neg q1, if_neg q1] at htk
    rw [if_neg q1] at hph
    have hen : enB om om' = false := by unfold enB; rw [hom', hph]; exact Bool.and_false _
    refine ⟨o1, gd', om', go', gs', by rw [htk, hen]; rfl, fun k r cp p hk hp9 hMk => ⟨g, hcomes, dkM_Q hMk hQ⟩, Or.inr (Or.inr (Or.inr (Or.inr (Or.inl ⟨f, gr, 87, m', dl - 1, v, sg, la, ?_⟩)))), hQ, by rw [hom']; rfl, Or.inr ?_⟩
    · subst hom' ho1
      exact ⟨⟨a1, hph⟩, ⟨bf, bg, f1, f2, g1, g2⟩, hC, hM, ⟨by omega, by omega, rfl, hv1, hv2, hv3⟩, c1, c2, c3, rfl, rfl, c6, hdt', m1, rfl, m3, rfl, m5, (goE 0 (by omega)).trans y0, (goE 1 (by omega)).trans y1, (goE 2 (by omega)).trans y2, (goE 3 (by omega)).trans y3, go5, go6⟩
    · rw [go6]; exact mt (nI_eq (b := 0) (by omega) (by omega)).mp (by omega)
def kTk (s : CS) (lv : Nat) : CS := ((s.1, s.2.1, s.2.2.1, s.2.2.2.1, s.2.2.2.2.1, s.2.2.2.2.2.1, s.2.2.2.2.2.2.1, s.2.2.2.2.2.2.2.1, (s.o_interpreter, s.o_interpreter_parser, s.g_interpreter_at, s.g_interpreter_ends, upd s.g_interpreter_actCount lv (fd_Macros_said s.o_macros), upd s.g_interpreter_actNext lv 0, s.g_interpreter_copies, s.g_interpreter_called, va_cpy s.g_macros_saidActs s.g_interpreter_acts 0 (8 * lv) 8, va_cpy s.g_macros_saidIds s.g_interpreter_actIds 0 (8 * lv) 8, s.g_interpreter_parser_data), (fs_Macros_said s.o_macros 0, s.g_macros_ids, s.g_macros_places, s.g_macros_lengths, s.g_macros_permanent, s.g_macros_bytes, s.n_macros_collected, s.g_macros_collected, s.g_macros_saidActs, s.g_macros_saidIds), s.2.2.2.2.2.2.2.2.2.2.1, s.2.2.2.2.2.2.2.2.2.2.2) : CS)
theorem ks_ok {N lv : Nat} {s : CS} (hl : fd_Interpreter_level s.o_interpreter = nI lv) (hlv : lv ≤ 2) : kSaid N s = some (kTk s lv) := by
  have e8 : nI lv * 8 = nI (8 * lv) := by have h9 := nI_mul lv 8; rw [Nat.mul_comm] at h9; exact h9
  have hcp : dk_cp (0 : Int32) (nI (8 * lv)) (8 : Int32) 8 24 := of_eq_true (dk_cpT (sp := 0) (dp := 8 * lv) (n := 8) (by omega) (by omega) (by omega) (by omega))
  unfold kSaid
  refine Option.map_eq_some_iff.mpr ⟨(fs_Macros_said s.o_macros 0, va_cpy s.g_macros_saidActs s.g_interpreter_acts 0 (8 * lv) 8, va_cpy s.g_macros_saidIds s.g_interpreter_actIds 0 (8 * lv) 8, upd s.g_interpreter_actCount lv (fd_Macros_said s.o_macros), upd s.g_interpreter_actNext lv 0), ?_, rfl⟩
  unfold ex_Interpreter_takeSaid
  simp only [dk_let]
  rw [hl, e8, if_pos hcp, if_pos hcp, if_pos (dk_in_nI (by omega) (by omega)), if_pos (dk_in_nI (by omega) (by omega)), show (8 : Int32).toNatClampNeg = 8 from rfl, show (0 : Int32).toNatClampNeg = 0 from rfl, nI_clamp (show 8 * lv < 2 ^ 31 by omega), nI_clamp (show lv < 2 ^ 31 by omega)]
theorem kd_0 {N : Nat} {s : CS} : kDo N s 0 = some s := rfl
/-- an event that asks for nothing -/
theorem ka_q {N lv : Nat} {s : CS} (e : Bool) (hl : fd_Interpreter_level s.o_interpreter = nI lv) (hlv : lv ≤ 2) : kAct N s (evQ e) = some (if e then kTk s lv else s) := by
  cases e with
  | false => exact kAct_eq s s s 0 kd_0 rfl
  | true =>
    have h8 : ¬ ((8 : Int32) &&& 8 = 0) := by decide
    exact kAct_eq s s (kTk s lv) 8 kd_0 (by rw [if_neg h8]; exact ks_ok hl hlv)
theorem settle_ok {N : Nat} {s : CS} {m : RS} (hN : 1000 < N) (h : cFo N s m) : ∃ o' ch' lf', kSettle N s = some (kFo s o' ch' lf') ∧ cFo N (kFo s o' ch' lf') m ∧ fd_FontShelf_chosenKnown o' = 1 ∧ (o' = s.o_fonts ∨ o' = fs_FontShelf_chosenKnown s.o_fonts 1) := by
  obtain ⟨F, n, u, hS, hW, hk⟩ := h
  obtain ⟨hK, o1, o2, o3, m1, m2, m3, hi, hc⟩ := hS
  obtain ⟨o', ch', lf', s1, s2, s3, s4⟩ := sl_settle (N := N) (ch := s.g_fonts_chosen) s.g_fonts_left hN hK o1 hW hk
  refine ⟨o', ch', lf', ?_, ⟨F, n, u, ?_, hW, Or.inr ⟨s3, s2⟩⟩, s3, s4⟩
  · unfold kSettle
    exact Option.map_eq_some_iff.mpr ⟨_, s1, rfl⟩
  · rcases s4 with rfl | rfl
    · exact ⟨hK, o1, o2, o3, m1, m2, m3, hi, hc⟩
    · exact ⟨hK, o1, o2, o3, m1, m2, m3, hi, hc⟩
/-- a round of the loop that ejects nothing and leaves nothing to do -/
theorem step_n {N : Nat} {s s1 s2 : CS} {m : RS} {ev : Int32} (hN : 1000 < N) (h1 : kNext N s = some (s1, ev)) (h2 : kAct N s1 ev = some s2) (hf : fd_Main_fault s.o_this = 0) (hfo : cFo N s2 m) (hj : fd_Interpreter_ejecting s2.o_interpreter = 0) (ht : fd_Interpreter_then s2.o_interpreter = 0) :
    ∃ o' ch' lf', kStep N s = some (kFo s2 o' ch' lf') ∧ cFo N (kFo s2 o' ch' lf') m ∧ fd_FontShelf_chosenKnown o' = 1 := by
  obtain ⟨o', ch', lf', s1', s2', s3', s4'⟩ := settle_ok hN hfo
  refine ⟨o', ch', lf', ?_, s2', s3'⟩
  unfold kStep
  refine (bind_eq h1).trans ?_
  refine (bind_eq h2).trans ?_
  refine (bind_eq s1').trans ?_
  rw [if_pos hj, if_pos hf]
  unfold kFinish
  exact Option.map_eq_some_iff.mpr ⟨_, fin_0 hj ht, rfl⟩
theorem mm_same {N d k r cp sd nd : Nat} {p : Nat → Nat} {m : RS} (hd : isDpi d) (hk : k < 5) (hM : shM m.o_sheet sd (wdN k d) (hgN k d) r nd) (dk : dkM k r cp p m.o_desk m.g_desk_state) (dp : fd_Ref_dpi m.o_this = nI d) : mMeasure N m = some m := by
  have hd3 : d ≤ 300 := by rcases hd with h | h | h <;> omega
  have a1 := (acr_tab k hk).2
  have a2 := (dwn_tab k hk).2
  have ev : ∀ a : Nat, a ≤ 122400 → nI a * (nI d / 75) / 96 = nI (a * d / 7200) := fun a ha => by
    have h1 : nI d / 75 = nI (d / 75) := nI_div (b := 75) (by omega) (by omega)
    have hb : d / 75 ≤ 4 := by omega
    have hm : a * (d / 75) ≤ 122400 * 4 := Nat.mul_le_mul ha hb
    have h2 : nI (a * (d / 75)) / 96 = nI (a * (d / 75) / 96) := nI_div (b := 96) (by omega) (by omega)
    rw [h1, nI_mul, h2, dp_mul hd]
  obtain ⟨q1, q2, q3, q4, q5⟩ := hM
  unfold mMeasure
  refine Option.map_eq_some_iff.mpr ⟨m.o_sheet, ?_, rfl⟩
  unfold ex_Ref_measure
  rw [dk.1, md_across k hk, md_down k hk]
  simp only [Option.bind_some]
  rw [dp, ev _ (by omega), ev _ (by omega), dk.2.1]
  have w1 : nI (acrN k * d / 7200) = fd_mSheet_wide m.o_sheet := q2.symm
  have w2 : nI (dwnN k * d / 7200) = fd_mSheet_high m.o_sheet := q3.symm
  rw [w1, w2, ← q4]
theorem is_seq {N : Nat} {m : RS} : mIsSeq N m = some (nI (decide (¬ fd_mDesk_phase m.o_desk ≤ 1)).toNat) := by
  unfold mIsSeq ex_mDesk_isSequence
  by_cases q : fd_mDesk_phase m.o_desk ≤ 1
  · rw [if_pos q, decide_eq_false (fun h => h q)]; rfl
  · rw [if_neg q, decide_eq_true q]; rfl
/-- the end of a byte, when nothing came and nothing is handed on -/
theorem me_q {N : Nat} {m : RS} {gl : Int32} {w : Bool} (hN : 0 < N) (hm : mMeasure N m = some m) (hc : fd_mDesk_came m.o_desk = 0) (ho : fd_mDesk_others m.o_desk = 0 ∨ ¬ m.g_desk_other 6 = 0) : mEnd N m gl (nI w.toNat) = some (m, w && decide (fd_mDesk_phase m.o_desk ≤ 1)) := by
  have hO : mOthers N N m = some m := by
    obtain ⟨z, rfl⟩ : ∃ z, N = z + 1 := ⟨N - 1, by omega⟩
    rw [mOthers]
    rcases ho with h | h
    · rw [if_pos (by rw [h]; decide)]
    · rw [if_neg h, ite_self]
  have hT : mTail N m gl = some m := by
    unfold mTail
    refine (bind_eq hm).trans ?_
    rw [if_pos hc]; exact hO
  unfold mEnd
  refine (bind_eq hT).trans ?_
  cases w with
  | false => rw [if_pos (show nI false.toNat = 0 from rfl)]; rfl
  | true =>
    rw [if_neg (show ¬ nI true.toNat = 0 by decide)]
    refine (bind_eq is_seq).trans ?_
    by_cases q : fd_mDesk_phase m.o_desk ≤ 1
    · rw [show decide (¬ fd_mDesk_phase m.o_desk ≤ 1) = false from decide_eq_false (fun h => h q), decide_eq_true q]; rfl
    · rw [show decide (¬ fd_mDesk_phase m.o_desk ≤ 1) = true from decide_eq_true q, decide_eq_false q]; rfl
theorem dueB_Q {a b : ob_mDesk} (h : dkQ a b) : dueB b = dueB a := by
  obtain ⟨h1, h2, h3, h4, h5, h6, h7, h8, h9⟩ := h
  unfold dueB; rw [h7, h8]
theorem dkI_Q {T : Nat} {a b : ob_mDesk} (h : dkQ a b) (hI : dkI T a) : dkI T b := by
  obtain ⟨h1, h2, h3, h4, h5, h6, h7, h8, h9⟩ := h
  obtain ⟨A, G, P, i1, i2, i3, i4, i5, i6, i7⟩ := hI
  exact ⟨A, G, P, h7.trans i1, h6.trans i2, h9.trans i3, i4, i5, i6, by rw [h8]; exact i7⟩
theorem cSh_Q {T d k r : Nat} {s : CS} {m m' : RS} (h : cSh T d k r s m) (hQ : dkQ m.o_desk m'.o_desk) (h1 : m'.o_sheet = m.o_sheet) (h2 : m'.g_sheet_dots = m.g_sheet_dots) (h3 : m'.n_sheet_dots = m.n_sheet_dots) (h4 : m'.o_this = m.o_this) : cSh T d k r s m' := by
  obtain ⟨a1, a2, a3, a4, a5, a6⟩ := h
  refine ⟨dkI_Q hQ a1, by rw [dueB_Q hQ]; exact a2, by rw [h1, h2, h3]; exact a3, by rw [dueB_Q hQ, h1]; exact a4, ?_, by rw [h4]; exact a6⟩
  obtain ⟨b1, b2, b3⟩ := a5
  exact ⟨b1, b2, by rw [h3]; exact b3⟩
def kfO (o o' : ob_Main) : Prop := fd_Main_dpi o' = fd_Main_dpi o ∧ fd_Main_taped o' = fd_Main_taped o ∧ fd_Main_ended o' = fd_Main_ended o ∧ fd_Main_pictures o' = fd_Main_pictures o
def rfO (o o' : ob_Ref) : Prop := fd_Ref_thrown o' = fd_Ref_thrown o ∧ fd_Ref_dpi o' = fd_Ref_dpi o ∧ fd_Ref_onTape o' = fd_Ref_onTape o ∧ fd_Ref_jobs o' = fd_Ref_jobs o ∧ fd_Ref_comeTo o' = fd_Ref_comeTo o ∧ fd_Ref_viewPage o' = fd_Ref_viewPage o ∧ fd_Ref_viewLine o' = fd_Ref_viewLine o
def kfG (s s' : CS) : Prop := kfO s.o_this s'.o_this ∧ s'.g_tape = s.g_tape ∧ s'.n_sheet_band = s.n_sheet_band ∧ s'.n_macros_collected = s.n_macros_collected ∧ s'.o_shown = s.o_shown ∧ s'.g_shown_bytes = s.g_shown_bytes ∧ s'.g_shown_table = s.g_shown_table ∧ s'.o_picture = s.o_picture ∧ s'.n_picture_types = s.n_picture_types ∧ s'.g_picture_types = s.g_picture_types ∧ s'.n_picture_counts = s.n_picture_counts ∧ s'.g_picture_counts = s.g_picture_counts ∧ s'.n_picture_places = s.n_picture_places ∧ s'.g_picture_places = s.g_picture_places ∧ s'.o_reader = s.o_reader ∧ s'.g_reader_tree = s.g_reader_tree ∧ s'.g_reader_above = s.g_reader_above ∧ s'.g_reader_line = s.g_reader_line
def rfG (m m' : RS) : Prop := rfO m.o_this m'.o_this ∧ m'.g_tape = m.g_tape ∧ m'.g_shownPages = m.g_shownPages ∧ m'.n_sheet_dots = m.n_sheet_dots ∧ m'.n_lines_out = m.n_lines_out ∧ m'.g_lines_whiteRests = m.g_lines_whiteRests ∧ m'.g_lines_blackRests = m.g_lines_blackRests ∧ m'.g_lines_whiteBlocks = m.g_lines_whiteBlocks ∧ m'.g_lines_blackBlocks = m.g_lines_blackBlocks ∧ m'.g_lines_blocks = m.g_lines_blocks ∧ m'.g_lines_modes = m.g_lines_modes ∧ m'.g_lines_readLine = m.g_lines_readLine ∧ m'.g_lines_readAbove = m.g_lines_readAbove ∧ m'.o_shown = m.o_shown ∧ m'.g_shown_file = m.g_shown_file ∧ m'.o_part = m.o_part ∧ m'.g_part_numbers = m.g_part_numbers ∧ m'.g_part_firstStrip = m.g_part_firstStrip ∧ m'.g_part_stripPlace = m.g_part_stripPlace ∧ m'.g_part_stripLength = m.g_part_stripLength ∧ m'.g_part_file = m.g_part_file ∧ m'.g_part_entry = m.g_part_entry ∧ m'.o_view = m.o_view ∧ m'.g_view_readAbove = m.g_view_readAbove ∧ m'.g_view_whiteRests = m.g_view_whiteRests ∧ m'.g_view_blackRests = m.g_view_blackRests ∧ m'.g_view_whiteBlocks = m.g_view_whiteBlocks ∧ m'.g_view_blackBlocks = m.g_view_blackBlocks ∧ m'.g_view_blocks = m.g_view_blocks ∧ m'.g_view_modes = m.g_view_modes ∧ m'.g_view_readLine = m.g_view_readLine
def rfM (m m' : RS) : Prop := fd_Ref_had m'.o_this = fd_Ref_had m.o_this ∧ m'.o_macros = m.o_macros ∧ m'.g_macros_ids = m.g_macros_ids ∧ m'.g_macros_permanent = m.g_macros_permanent ∧ m'.g_macros_lengths = m.g_macros_lengths ∧ m'.g_macros_store = m.g_macros_store ∧ m'.g_macros_buffer = m.g_macros_buffer ∧ m'.g_toDo = m.g_toDo ∧ m'.g_toDoId = m.g_toDoId ∧ m'.g_bytes1 = m.g_bytes1 ∧ m'.g_bytes2 = m.g_bytes2 ∧ m'.g_desk_kept = m.g_desk_kept ∧ m'.g_desk_isKept = m.g_desk_isKept ∧ rfG m m'
theorem kfG_refl (s : CS) : kfG s s := ⟨⟨rfl, rfl, rfl, rfl⟩, rfl, rfl, rfl, rfl, rfl, rfl, rfl, rfl, rfl, rfl, rfl, rfl, rfl, rfl, rfl, rfl, rfl⟩
theorem rfG_refl (m : RS) : rfG m m := ⟨⟨rfl, rfl, rfl, rfl, rfl, rfl, rfl⟩, rfl, rfl, rfl, rfl, rfl, rfl, rfl, rfl, rfl, rfl, rfl, rfl, rfl, rfl, rfl, rfl, rfl, rfl, rfl, rfl, rfl, rfl, rfl, rfl, rfl, rfl, rfl, rfl, rfl, rfl⟩
theorem rfM_refl (m : RS) : rfM m m := ⟨rfl, rfl, rfl, rfl, rfl, rfl, rfl, rfl, rfl, rfl, rfl, rfl, rfl, rfG_refl m⟩
theorem kfG_trans {a b c : CS} (h : kfG a b) (k : kfG b c) : kfG a c := by
  obtain ⟨⟨p0, p1, p2, p3⟩, h0, h1, h2, h3, h4, h5, h6, h7, h8, h9, h10, h11, h12, h13, h14, h15, h16⟩ := h
  obtain ⟨⟨q0, q1, q2, q3⟩, k0, k1, k2, k3, k4, k5, k6, k7, k8, k9, k10, k11, k12, k13, k14, k15, k16⟩ := k
  exact ⟨⟨q0.trans p0, q1.trans p1, q2.trans p2, q3.trans p3⟩, k0.trans h0, k1.trans h1, k2.trans h2, k3.trans h3, k4.trans h4, k5.trans h5, k6.trans h6, k7.trans h7, k8.trans h8, k9.trans h9, k10.trans h10, k11.trans h11, k12.trans h12, k13.trans h13, k14.trans h14, k15.trans h15, k16.trans h16⟩
theorem rfG_trans {a b c : RS} (h : rfG a b) (k : rfG b c) : rfG a c := by
  obtain ⟨⟨p0, p1, p2, p3, p4, p5, p6⟩, h0, h1, h2, h3, h4, h5, h6, h7, h8, h9, h10, h11, h12, h13, h14, h15, h16, h17, h18, h19, h20, h21, h22, h23, h24, h25, h26, h27, h28, h29⟩ := h
  obtain ⟨⟨q0, q1, q2, q3, q4, q5, q6⟩, k0, k1, k2, k3, k4, k5, k6, k7, k8, k9, k10, k11, k12, k13, k14, k15, k16, k17, k18, k19, k20, k21, k22, k23, k24, k25, k26, k27, k28, k29⟩ := k
  exact ⟨⟨q0.trans p0, q1.trans p1, q2.trans p2, q3.trans p3, q4.trans p4, q5.trans p5, q6.trans p6⟩, k0.trans h0, k1.trans h1, k2.trans h2, k3.trans h3, k4.trans h4, k5.trans h5, k6.trans h6, k7.trans h7, k8.trans h8, k9.trans h9, k10.trans h10, k11.trans h11, k12.trans h12, k13.trans h13, k14.trans h14, k15.trans h15, k16.trans h16, k17.trans h17, k18.trans h18, k19.trans h19, k20.trans h20, k21.trans h21, k22.trans h22, k23.trans h23, k24.trans h24, k25.trans h25, k26.trans h26, k27.trans h27, k28.trans h28, k29.trans h29⟩
def lvF (lv a : Nat) (s s' : CS) : Prop := s'.g_interpreter_at = upd s.g_interpreter_at lv (nI (a + 1)) ∧ s'.g_interpreter_ends = s.g_interpreter_ends ∧ s'.g_interpreter_called = s.g_interpreter_called ∧ s'.g_interpreter_copies = s.g_interpreter_copies ∧ s'.g_page_kept = s.g_page_kept ∧ fd_Interpreter_level s'.o_interpreter = fd_Interpreter_level s.o_interpreter
def acS (s s' : CS) : Prop := s'.g_interpreter_acts = s.g_interpreter_acts ∧ s'.g_interpreter_actIds = s.g_interpreter_actIds ∧ s'.g_interpreter_actCount = s.g_interpreter_actCount ∧ s'.g_interpreter_actNext = s.g_interpreter_actNext
/-- what was said is taken at a level -/
def acT (lv : Nat) (s s' : CS) (m' : RS) : Prop := ∃ c : Nat, c ≤ 8 ∧ s'.g_interpreter_actCount = upd s.g_interpreter_actCount lv (nI c) ∧ s'.g_interpreter_actNext = upd s.g_interpreter_actNext lv 0 ∧ fd_Ref_xMany m'.o_this = nI c ∧ fd_Macros_said s'.o_macros = 0 ∧ (∀ i, i < c → ∃ w j : Nat, w ≤ 32767 ∧ j ≤ 32767 ∧ m'.g_xWhat i = nI w ∧ m'.g_xId i = nI j ∧ s'.g_interpreter_acts (8 * lv + i) = nI w ∧ s'.g_interpreter_actIds (8 * lv + i) = nI j) ∧ (∀ i, (i < 8 * lv ∨ 8 * lv + 8 ≤ i) → s'.g_interpreter_acts i = s.g_interpreter_acts i ∧ s'.g_interpreter_actIds i = s.g_interpreter_actIds i)
def aR (lv : Nat) (e : Bool) (s s' : CS) (m' : RS) : Prop := (e = false → acS s s' ∧ cSd s' m') ∧ (e = true → acT lv s s' m')
/-- both sides, but for the parsers and for what was said -/
def cCo (N d k r cp T : Nat) (p : Nat → Nat) (s : CS) (m : RS) : Prop := cPg d k r cp p s m ∧ cSh T d k r s m ∧ cFo N s m ∧ fd_FontShelf_chosenKnown s.o_fonts = 1 ∧ cRa d T s m ∧ cMa T s m ∧ cFl s m ∧ cFa s m ∧ cIt s
def lvB (lv a z b : Nat) (s : CS) : Prop := fd_Interpreter_level s.o_interpreter = nI lv ∧ lv ≤ 2 ∧ s.g_interpreter_actCount lv ≤ s.g_interpreter_actNext lv ∧ s.g_interpreter_at lv = nI a ∧ s.g_interpreter_ends lv = nI z ∧ a < z ∧ z ≤ 65536 ∧ (lv = 0 → s.g_tape a &&& 255 = nI b ∧ fd_Macros_reading s.o_macros = 0) ∧ (lv ≠ 0 → z ≤ 32768 ∧ s.g_interpreter_copies a &&& 255 = nI b)
theorem more_ok {N lv a z b : Nat} {s : CS} (h : lvB lv a z b s) : kMore N s = some 1 := by
  obtain ⟨h1, h2, h3, h4, h5, h6, h7, h8, h9⟩ := h
  unfold kMore ex_Interpreter_hasMore
  rw [h1, Option.map_id']
  by_cases q : lv = 0
  · subst q
    rw [if_neg (show ¬ (0 : Int32) < nI 0 by decide), if_pos (by rw [h4, h5]; exact nI_lt h6 (by omega))]
  · rw [if_pos (show (0 : Int32) < nI lv from nI_lt (a := 0) (by omega) (by omega))]
theorem tk_acts {lv : Nat} {s : CS} {m : RS} (hlv : lv ≤ 2) (h : cSd s m) : acT lv s (kTk s lv) m := by
  obtain ⟨c, c1, c2, c3, c4, c5, c6⟩ := h
  refine ⟨c, c1, ?_, rfl, c3, rfl, fun i hi => ?_, fun i hi => ?_⟩
  · show upd s.g_interpreter_actCount lv (fd_Macros_said s.o_macros) = _; rw [c2]
  · obtain ⟨w, j, w1, w2, w3, w4⟩ := c6 i hi
    refine ⟨w, j, w1, w2, w3, w4, ?_, ?_⟩
    · show va_cpy s.g_macros_saidActs s.g_interpreter_acts 0 (8 * lv) 8 (8 * lv + i) = _
      unfold va_cpy
      rw [if_pos (by omega), ← w3, ← c4 i hi]; congr 1; omega
    · show va_cpy s.g_macros_saidIds s.g_interpreter_actIds 0 (8 * lv) 8 (8 * lv + i) = _
      unfold va_cpy
      rw [if_pos (by omega), ← w4, ← c5 i hi]; congr 1; omega
  · refine ⟨?_, ?_⟩
    · show va_cpy s.g_macros_saidActs s.g_interpreter_acts 0 (8 * lv) 8 i = _
      unfold va_cpy
      rw [if_neg (by omega)]
    · show va_cpy s.g_macros_saidIds s.g_interpreter_actIds 0 (8 * lv) 8 i = _
      unfold va_cpy
      rw [if_neg (by omega)]
theorem ev16 (e : Bool) : evQ e &&& 16 = 0 := by cases e <;> decide
theorem sh_M {k r d sd nd : Nat} {o : ob_Sheet} {os : ob_mSheet} {gmk gd : Nat → Int32} {b : Nat → Int64} (h : shR k r d o os gmk gd b sd nd) : shM os sd (wdN k d) (hgN k d) r nd := by
  obtain ⟨n, u, kd, nu, io, so, mk, h1, h2, h3, h4, h5, h6, h7, h8⟩ := h
  exact h8.2.2.2.2.2.1
/-- the result of a byte on both sides -/
def bRes (N d T lv a : Nat) (s : CS) (m : RS) (s' : CS) (m' : RS) (e : Bool) : Prop := (∃ k r cp p, cCo N d k r cp T p s' m') ∧ cPs s' m' ∧ lvF lv a s s' ∧ kfG s s' ∧ aR lv e s s' m' ∧ rfM m m'
theorem st_Q {N d k r cp T lv a z b i : Nat} {p : Nat → Nat} {s : CS} {m : RS} {lm : Nat → Int32} {own gl : Int32} (hN : 2 ^ 22 < N) (hC : cCo N d k r cp T p s m) (hSd : cSd s m) (hL : lvB lv a z b s) (hpre : mByte N m (nI b) = (mIsSeq N (mAdvd m lm i own)).bind (fun was => (mDesk N (mAdvd m lm i own) (nI b)).bind (fun s2 => mPost N (mAdvd m lm i own) s2 gl was)))
    (ho : oQ N b s.o_interpreter_parser s.g_interpreter_parser_data (fs_mDesk_thrown m.o_desk 0) m.g_desk_state m.g_desk_page (upd m.g_desk_steps i own) m.g_desk_glyph m.g_desk_other m.g_desk_store) :
    ∃ s' m' e, kRun N 1 s s' ∧ mByte N m (nI b) = some (m', e) ∧ bRes N d T lv a s m s' m' e := by
  obtain ⟨o', gd', om', go', gs', t1, t2, t3, t4, t5, t6⟩ := ho
  obtain ⟨hPg, hSh, hFo, hKn, hRa, hMa, hFl, hFa, hIt⟩ := hC
  obtain ⟨pd, pk, pr, pcp, pp, pok, pst, pdk, pd1, pd2⟩ := hPg
  have hL0 := hL
  obtain ⟨l1, l2, l3, l4, l5, l6, l7, l8, l9⟩ := hL
  obtain ⟨g', u1, u2⟩ := t2 k r cp p pk pok (dkM_Q pdk ⟨rfl, rfl, rfl, rfl, rfl, rfl, rfl, rfl, rfl⟩)
  obtain ⟨e, he⟩ : ∃ e, e = enB (fs_mDesk_thrown m.o_desk 0) om' := ⟨_, rfl⟩
  rw [← he] at t1
  have kn := kn_byte (N := N) l1 l2 l3 l4 l5 l6 l7 l8 l9 t1
  rw [if_pos (ev16 e)] at kn
  obtain ⟨s1, hs1⟩ : ∃ s1, s1 = kPut s (upd s.g_interpreter_at lv (nI (a + 1))) o' gd' := ⟨_, rfl⟩
  rw [← hs1] at kn
  have ka := ka_q (N := N) (lv := lv) (s := s1) e (by rw [hs1]; exact l1) l2
  obtain ⟨m2, hm2⟩ : ∃ m2, m2 = mDk (mAdvd m lm i own) (om', g', m.g_desk_page, m.g_desk_glyph, go', gs') := ⟨_, rfl⟩
  have hQ : dkQ m.o_desk om' := dkQ_trans (b := fs_mDesk_thrown m.o_desk 0) ⟨rfl, rfl, rfl, rfl, rfl, rfl, rfl, rfl, rfl⟩ t4
  have hSh2 : cSh T d k r s m2 := by rw [hm2]; exact cSh_Q hSh hQ rfl rfl rfl rfl
  have hme : mMeasure N m2 = some m2 := by
    obtain ⟨sd, q1, q2⟩ := hSh2.2.2.1
    exact mm_same pd pk (sh_M q1) (by rw [hm2]; exact u2) (by rw [hm2]; exact pd2)
  have hby : mByte N m (nI b) = some (m2, e) := by
    rw [hpre]
    refine (bind_eq is_seq).trans ?_
    have hdk : mDesk N (mAdvd m lm i own) (nI b) = some m2 := by
      rw [hm2]; unfold mDesk
      exact Option.map_eq_some_iff.mpr ⟨_, u1, rfl⟩
    refine (bind_eq hdk).trans ?_
    unfold mPost
    rw [if_pos (show fd_mDesk_pages m2.o_desk ≤ fd_mDesk_pages (mAdvd m lm i own).o_desk by rw [hm2]; exact Int32.le_of_eq t4.2.2.2.2.2.2.2.2)]
    have := me_q (N := N) (gl := gl) (w := decide (¬ fd_mDesk_phase (mAdvd m lm i own).o_desk ≤ 1)) (by omega) hme (by rw [hm2]; exact t5) (by rw [hm2]; exact t6)
    rw [this, he, hm2]; rfl
  have fin : ∀ s2, (s2 = s1 ∨ s2 = kTk s1 lv) → kAct N s1 (evQ e) = some s2 → aR lv e s s2 m2 → ∃ s' m' e, kRun N 1 s s' ∧ mByte N m (nI b) = some (m', e) ∧ bRes N d T lv a s m s' m' e := by
    intro s2 hs2 ha hac
    have hfo2 : cFo N s2 m2 := by rw [hm2]; rcases hs2 with h | h <;> (rw [h, hs1]; exact hFo)
    obtain ⟨oF, ch, lf, r1, r2, r3⟩ := step_n (N := N) (m := m2) (by omega) kn ha hFa.1 hfo2 (by rcases hs2 with h | h <;> (rw [h, hs1]; exact hIt.1)) (by rcases hs2 with h | h <;> (rw [h, hs1]; exact hIt.2))
    refine ⟨kFo s2 oF ch lf, m2, e, kRun.one hFa.1 (more_ok hL0) r1, hby, ⟨k, r, cp, p, ?_⟩, ?_, ?_, ?_, ?_, ?_⟩
    · rcases hs2 with h | h
      · subst h; subst hs1; rw [hm2]
        exact ⟨⟨pd, pk, pr, pcp, pp, pok, pst, u2, pd1, pd2⟩, by rw [hm2] at hSh2; exact hSh2, by rw [hm2] at r2; exact r2, r3, hRa, hMa, hFl, hFa, hIt⟩
      · subst h; subst hs1; rw [hm2]
        exact ⟨⟨pd, pk, pr, pcp, pp, pok, pst, u2, pd1, pd2⟩, by rw [hm2] at hSh2; exact hSh2, by rw [hm2] at r2; exact r2, r3, hRa, hMa, hFl, hFa, hIt⟩
    · rcases hs2 with h | h <;> (subst h; subst hs1; rw [hm2]; exact t3)
    · rcases hs2 with h | h <;> (subst h; subst hs1; exact ⟨rfl, rfl, rfl, rfl, rfl, rfl⟩)
    · rcases hs2 with h | h <;> (subst h; subst hs1; exact kfG_refl s)
    · exact hac
    · rw [hm2]; exact rfM_refl m
  cases e with
  | false =>
    refine fin s1 (Or.inl rfl) ka ⟨fun _ => ⟨?_, ?_⟩, fun h => absurd h (by decide)⟩
    · rw [hs1]; exact ⟨rfl, rfl, rfl, rfl⟩
    · rw [hs1, hm2]; exact hSd
  | true =>
    refine fin (kTk s1 lv) (Or.inr rfl) ka ⟨fun h => absurd h (by decide), fun _ => ?_⟩
    have := tk_acts (lv := lv) (s := s1) (m := m2) l2 (by rw [hs1, hm2]; exact hSd)
    rw [hs1] at this ⊢; exact this
def kPs (s : CS) (op : ob_Page) (g : Nat → Int32) : CS := ((s.1, s.2.1, s.2.2.1, s.2.2.2.1, s.2.2.2.2.1, s.2.2.2.2.2.1, (op, g, s.g_page_kept), s.2.2.2.2.2.2.2.1, s.2.2.2.2.2.2.2.2.1, s.2.2.2.2.2.2.2.2.2.1, s.2.2.2.2.2.2.2.2.2.2.1, s.2.2.2.2.2.2.2.2.2.2.2) : CS)
def dkP (o o' : ob_mDesk) : Prop := fd_mDesk_glyphs o' = fd_mDesk_glyphs o ∧ fd_mDesk_allGlyphs o' = fd_mDesk_allGlyphs o ∧ fd_mDesk_touched o' = fd_mDesk_touched o ∧ fd_mDesk_pages o' = fd_mDesk_pages o
theorem dkP_Q {a b : ob_mDesk} (h : dkQ a b) : dkP a b := ⟨h.2.2.2.2.2.1, h.2.2.2.2.2.2.1, h.2.2.2.2.2.2.2.1, h.2.2.2.2.2.2.2.2⟩
theorem dkP_trans {a b c : ob_mDesk} (h : dkP a b) (k : dkP b c) : dkP a c := ⟨k.1.trans h.1, k.2.1.trans h.2.1, k.2.2.1.trans h.2.2.1, k.2.2.2.trans h.2.2.2⟩
theorem dueB_P {a b : ob_mDesk} (h : dkP a b) : dueB b = dueB a := by unfold dueB; rw [h.2.1, h.2.2.1]
theorem dkI_P {T : Nat} {a b : ob_mDesk} (h : dkP a b) (hI : dkI T a) : dkI T b := by
  obtain ⟨A, G, P, i1, i2, i3, i4, i5, i6, i7⟩ := hI
  exact ⟨A, G, P, h.2.1.trans i1, h.1.trans i2, h.2.2.2.trans i3, i4, i5, i6, by rw [h.2.2.1]; exact i7⟩
theorem cSh_P {T d k r : Nat} {s : CS} {m m' : RS} (h : cSh T d k r s m) (hQ : dkP m.o_desk m'.o_desk) (h1 : m'.o_sheet = m.o_sheet) (h2 : m'.g_sheet_dots = m.g_sheet_dots) (h3 : m'.n_sheet_dots = m.n_sheet_dots) (h4 : m'.o_this = m.o_this) : cSh T d k r s m' := by
  obtain ⟨a1, a2, a3, a4, a5, a6⟩ := h
  refine ⟨dkI_P hQ a1, by rw [dueB_P hQ]; exact a2, by rw [h1, h2, h3]; exact a3, by rw [dueB_P hQ, h1]; exact a4, ?_, by rw [h4]; exact a6⟩
  obtain ⟨b1, b2, b3⟩ := a5
  exact ⟨b1, b2, by rw [h3]; exact b3⟩
/-- a byte that does something to the page alone, without an eject -/
theorem st_P {N d k r cp T lv a z b i : Nat} {p : Nat → Nat} {s : CS} {m : RS} {lm : Nat → Int32} {own gl ev : Int32} {o' : ob_Parser} {gd' : Nat → Int32} {om' : ob_mDesk} {g' gp' gg' go' gs' gk : Nat → Int32} {cp' : Nat} {p' : Nat → Nat} {s2 : CS} {e : Bool} (hN : 2 ^ 22 < N) (hC : cCo N d k r cp T p s m) (hSd : cSd s m) (hL : lvB lv a z b s) (hpre : mByte N m (nI b) = (mIsSeq N (mAdvd m lm i own)).bind (fun was => (mDesk N (mAdvd m lm i own) (nI b)).bind (fun s2 => mPost N (mAdvd m lm i own) s2 gl was)))
    (ht : ex_Parser_take N s.o_interpreter_parser s.g_interpreter_parser_data (nI b) = some (o', gd', ev)) (he16 : ev &&& 16 = 0)
    (ha : kAct N (kPut s (upd s.g_interpreter_at lv (nI (a + 1))) o' gd') ev = some s2) (hs2 : s2 = if e then kTk (kPs (kPut s (upd s.g_interpreter_at lv (nI (a + 1))) o' gd') (pgC d k r cp' p') gk) lv else kPs (kPut s (upd s.g_interpreter_at lv (nI (a + 1))) o' gd') (pgC d k r cp' p') gk)
    (hcp : 1 ≤ cp' ∧ cp' ≤ 99) (hok : pOK k r p') (hst : stk p' gk)
    (hdk : ex_mDesk_comes N (fs_mDesk_thrown m.o_desk 0) m.g_desk_state m.g_desk_page (upd m.g_desk_steps i own) m.g_desk_glyph m.g_desk_other m.g_desk_store (nI b) = some (om', g', gp', gg', go', gs')) (hdP : dkP m.o_desk om') (hcm : fd_mDesk_came om' = 0) (hot : fd_mDesk_others om' = 0 ∨ ¬ go' 6 = 0) (hM : dkM k r cp' p' om' g') (hps : psR o' gd' om' go' gs') (hen : enB (fs_mDesk_thrown m.o_desk 0) om' = e) :
    ∃ s' m' e, kRun N 1 s s' ∧ mByte N m (nI b) = some (m', e) ∧ bRes N d T lv a s m s' m' e := by
  obtain ⟨hPg, hSh, hFo, hKn, hRa, hMa, hFl, hFa, hIt⟩ := hC
  obtain ⟨pd, pk, pr, pcp, pp, pok, pst, pdk, pd1, pd2⟩ := hPg
  have hL0 := hL
  obtain ⟨l1, l2, l3, l4, l5, l6, l7, l8, l9⟩ := hL
  have kn := kn_byte (N := N) l1 l2 l3 l4 l5 l6 l7 l8 l9 ht
  rw [if_pos he16] at kn
  obtain ⟨m2, hm2⟩ : ∃ m2, m2 = mDk (mAdvd m lm i own) (om', g', gp', gg', go', gs') := ⟨_, rfl⟩
  have hSh2 : cSh T d k r s m2 := by rw [hm2]; exact cSh_P hSh hdP rfl rfl rfl rfl
  have hme : mMeasure N m2 = some m2 := by
    obtain ⟨sd, q1, q2⟩ := hSh2.2.2.1
    exact mm_same pd pk (sh_M q1) (by rw [hm2]; exact hM) (by rw [hm2]; exact pd2)
  have hby : mByte N m (nI b) = some (m2, e) := by
    rw [hpre]
    refine (bind_eq is_seq).trans ?_
    have hdk' : mDesk N (mAdvd m lm i own) (nI b) = some m2 := by
      rw [hm2]; unfold mDesk
      exact Option.map_eq_some_iff.mpr ⟨_, hdk, rfl⟩
    refine (bind_eq hdk').trans ?_
    unfold mPost
    rw [if_pos (show fd_mDesk_pages m2.o_desk ≤ fd_mDesk_pages (mAdvd m lm i own).o_desk by rw [hm2]; exact Int32.le_of_eq hdP.2.2.2)]
    have := me_q (N := N) (gl := gl) (w := decide (¬ fd_mDesk_phase (mAdvd m lm i own).o_desk ≤ 1)) (by omega) hme (by rw [hm2]; exact hcm) (by rw [hm2]; exact hot)
    rw [this, ← hen, hm2]; rfl
  have hfo2 : cFo N s2 m2 := by rw [hm2, hs2]; cases e <;> exact hFo
  obtain ⟨oF, ch, lf, r1, r2, r3⟩ := step_n (N := N) (m := m2) (by omega) kn ha hFa.1 hfo2 (by rw [hs2]; cases e <;> exact hIt.1) (by rw [hs2]; cases e <;> exact hIt.2)
  refine ⟨kFo s2 oF ch lf, m2, e, kRun.one hFa.1 (more_ok hL0) r1, hby, ⟨k, r, cp', p', ?_⟩, ?_, ?_, ?_, ?_, ?_⟩
  · rw [hm2] at hSh2 r2 ⊢
    rw [hs2] at r2 ⊢
    cases e
    · exact ⟨⟨pd, pk, pr, hcp, rfl, hok, hst, hM, pd1, pd2⟩, hSh2, r2, r3, hRa, hMa, hFl, hFa, hIt⟩
    · exact ⟨⟨pd, pk, pr, hcp, rfl, hok, hst, hM, pd1, pd2⟩, hSh2, r2, r3, hRa, hMa, hFl, hFa, hIt⟩
  · rw [hs2, hm2]; cases e <;> exact hps
  · rw [hs2]; cases e <;> exact ⟨rfl, rfl, rfl, rfl, rfl, rfl⟩
  · rw [hs2]; cases e <;> exact kfG_refl s
  · rw [hs2]
    cases e with
    | false => exact ⟨fun _ => ⟨⟨rfl, rfl, rfl, rfl⟩, by rw [hm2]; exact hSd⟩, fun h => absurd h (by decide)⟩
    | true =>
      refine ⟨fun h => absurd h (by decide), fun _ => ?_⟩
      have := tk_acts (lv := lv) (s := kPs (kPut s (upd s.g_interpreter_at lv (nI (a + 1))) o' gd') (pgC d k r cp' p') gk) (m := m2) l2 (by rw [hm2]; exact hSd)
      exact this
  · rw [hm2]; exact rfM_refl m
/-- kAct by what is done, and by what ends -/
theorem ka_do {N lv : Nat} {s x : CS} {v : Int32} (e : Bool) (hv : v &&& 8 = 0 ↔ e = false) (h : kDo N s (if v &&& 7 = 4 then (fd_Parser_family s.o_interpreter_parser <<< ((8 : Int32) &&& 31)) ||| fd_Parser_group s.o_interpreter_parser else v &&& 7) = some x) (hl : fd_Interpreter_level x.o_interpreter = nI lv) (hlv : lv ≤ 2) : kAct N s v = some (if e then kTk x lv else x) := by
  refine kAct_eq s x _ v h ?_
  cases e with
  | false => rw [if_pos (hv.mpr rfl)]; rfl
  | true => rw [if_neg (fun hh => absurd (hv.mp hh) (by decide))]; exact ks_ok hl hlv
def kPr (s : CS) (u : rs_Main_printSheet) : CS := (((u.1, s.g_tape), s.2.1, s.2.2.1, s.2.2.2.1, (u.2.2.1, u.2.2.2.2.2.2.2.1, u.2.2.2.2.2.2.1), (u.2.1, s.g_sheet_marks, s.g_sheet_dots, s.n_sheet_band, u.2.2.2.2.2.1), s.2.2.2.2.2.2.1, (u.2.2.2.1, u.2.2.2.2.1, u.2.2.2.2.2.2.2.2.1), s.2.2.2.2.2.2.2.2.1, s.2.2.2.2.2.2.2.2.2.1, s.2.2.2.2.2.2.2.2.2.2.1, s.2.2.2.2.2.2.2.2.2.2.2) : CS)
def mPr (m : RS) (u : rs_Ref_print) : RS := (((u.1, u.2.2.2.2.2.2.2.2.1, m.g_fresh, m.g_shownPages, m.g_tape, m.g_seed, m.g_xWhat, m.g_xId, m.g_toDo, m.g_toDoId, m.g_bytes2, m.g_bytes1), (u.2.2.2.2.2.2.2.1, u.2.2.2.2.2.2.2.2.2.1, u.2.2.2.2.2.2.2.2.2.2.1, u.2.2.2.2.2.2.2.2.2.2.2), (u.2.1, m.n_lines_out, u.2.2.2.2.2.2.1, u.2.2.2.1, u.2.2.2.2.1, m.g_lines_whiteRests, m.g_lines_blackRests, m.g_lines_whiteBlocks, m.g_lines_blackBlocks, m.g_lines_blocks, m.g_lines_modes, m.g_lines_readAbove, m.g_lines_readLine), (u.2.2.1, m.n_sheet_dots, u.2.2.2.2.2.1), m.2.2.2.2.1, m.2.2.2.2.2.1, m.2.2.2.2.2.2.1, m.2.2.2.2.2.2.2.1, m.2.2.2.2.2.2.2.2.1, m.2.2.2.2.2.2.2.2.2) : RS)
/-- a sheet as it is behind a print -/
def shW (T d k r : Nat) (s : CS) (m : RS) : Prop := (∃ sd, shR k r d s.o_sheet m.o_sheet s.g_sheet_marks s.g_sheet_dots m.g_sheet_dots sd m.n_sheet_dots ∧ ∀ j, j < 5 → wdN j d ≤ 64 * sd ∧ sd * hgN j d ≤ m.n_sheet_dots) ∧ fd_mSheet_marks m.o_sheet = 0 ∧ fd_Sheet_due s.o_sheet = 0 ∧ cRm d s m ∧ (∃ a b c, ruR s.o_sheet m.o_this a b c)
theorem pr_both {N d k r cp T P : Nat} {p : Nat → Nat} {s : CS} {m : RS} (hN : 2 ^ 22 < N) (hd : isDpi d) (hk : k < 5) (hr : r < 4) (hcp : 1 ≤ cp ∧ cp ≤ 99) (hpg : s.o_page = pgC d k r cp p) (hd1 : fd_Main_dpi s.o_this = nI d) (hd2 : fd_Ref_dpi m.o_this = nI d) (hsh : ∃ sd, shR k r d s.o_sheet m.o_sheet s.g_sheet_marks s.g_sheet_dots m.g_sheet_dots sd m.n_sheet_dots ∧ ∀ j, j < 5 → wdN j d ≤ 64 * sd ∧ sd * hgN j d ≤ m.n_sheet_dots) (hrm : cRm d s m) (hru : ∃ a b c, ruR s.o_sheet m.o_this a b c) (hfl : cFl s m) (hfa : cFa s m) (hP : P < 2 ^ 30) (hpo : fd_mDesk_pages m.o_desk = nI (P + 1)) (hgp : m.g_desk_page (4 * (P % 40) + 3) = nI cp) :
    ∃ (ok : Bool) (u : rs_Main_printSheet) (w : rs_Ref_print), kPrint N s = some (kPr s u, if ok then 0 else 20) ∧ mPrint N m = some (mPr m w) ∧ shW T d k r (kPr s u) (mPr m w) ∧ cFl (kPr s u) (mPr m w) ∧ u.1 = fs_Main_overruns s.o_this (fd_Main_overruns u.1) ∧ w.1 = (if ok then fs_Ref_overruns m.o_this (fd_Main_overruns u.1) else fs_Ref_fault (fs_Ref_overruns m.o_this (fd_Main_overruns u.1)) 20) := by
  obtain ⟨sd, q1, q2⟩ := hsh
  obtain ⟨⟨BL, b1, b2, b3, b4⟩, b5, b6⟩ := hrm
  obtain ⟨⟨P0, K, S, f1⟩, f2, f3, f4, f5, f6⟩ := hfl
  have hy : ∃ y1 : Nat, y1 < 40 ∧ (fd_mDesk_pages m.o_desk - 1) - (fd_mDesk_pages m.o_desk - 1) / 40 * 40 = nI y1 ∧ m.g_desk_page (4 * y1 + 3) = nI cp := by
    refine ⟨P % 40, by omega, ?_, hgp⟩
    have e1 : fd_mDesk_pages m.o_desk - 1 = nI P := by rw [hpo]; exact nI_sub (b := 1) (by omega)
    rw [e1]; exact nI_mod (b := 40) (by omega) (by omega)
  obtain ⟨ok, P', K', S', v, oc', of', g', bnd', ga', gl', t', ol', ml', ma', b', out', oP', pg', f', pc', lc', e1, e2, e3, e4, e5⟩ := pr_sheet (N := N) (oc := s.o_coder) (p := p) (od := m.o_desk) (ol := m.o_lines) (gp := m.g_desk_page) (ml := m.g_lines_line) (ma := m.g_lines_above) (out := m.g_lines_out) (pc := m.g_job_places) (lc := m.g_job_lengths) (bnd := s.g_sheet_band) (ga := s.g_coder_above) (gl := s.g_coder_line) hN hk hr hd ⟨hcp.1, by omega⟩ q1 b6 f1 hd1 hd2 hfa.2 f6 b5 b2 b3 b1 (b4 k hk) f5 f2 f3 f4 hy
  refine ⟨ok, (fs_Main_overruns s.o_this (fd_Main_overruns s.o_this + ovN (fd_Sheet_overrun s.o_sheet)), fs_Sheet_due (fs_Sheet_overrun (fs_Sheet_used (fs_Sheet_count (fs_Sheet_bandWords s.o_sheet v) 0) 0) 0) 0, oc', of', g', bnd', ga', gl', t', if ok then 0 else 20), ((if ok then fs_Ref_overruns m.o_this (fd_Ref_overruns m.o_this + ovN (fd_Sheet_overrun s.o_sheet)) else fs_Ref_fault (fs_Ref_overruns m.o_this (fd_Ref_overruns m.o_this + ovN (fd_Sheet_overrun s.o_sheet))) 20), ol', fs_mSheet_overrun (fs_mSheet_bytes (fs_mSheet_marks m.o_sheet 0) 0) 0, ml', ma', b', out', oP', pg', f', pc', lc'), ?_, ?_, ⟨⟨sd, ?_, q2⟩, ?_, ?_, ?_, ?_⟩, ?_, ?_, ?_⟩
  · unfold kPrint
    refine Option.map_eq_some_iff.mpr ⟨_, ?_, rfl⟩
    rw [hpg]; exact e1
  · unfold mPrint
    exact Option.map_eq_some_iff.mpr ⟨_, e2, rfl⟩
  · exact e5
  · rfl
  · rfl
  · exact ⟨⟨BL, b1, b2, b3, b4⟩, b5, b6⟩
  · obtain ⟨x, y, z, hxyz⟩ := hru
    refine ⟨x, y, z, ?_⟩
    cases ok <;> exact hxyz
  · refine ⟨⟨P', K', S', e3⟩, f2, f3, e4, f5, ?_⟩
    show fd_Main_overruns s.o_this + _ = _
    cases ok
    · show _ = fd_Ref_overruns m.o_this + _; rw [f6]
    · show _ = fd_Ref_overruns m.o_this + _; rw [f6]
  · rfl
  · show (if ok then fs_Ref_overruns m.o_this (fd_Ref_overruns m.o_this + _) else fs_Ref_fault (fs_Ref_overruns m.o_this (fd_Ref_overruns m.o_this + _)) 20) = (if ok then fs_Ref_overruns m.o_this (fd_Main_overruns s.o_this + _) else fs_Ref_fault (fs_Ref_overruns m.o_this (fd_Main_overruns s.o_this + _)) 20)
    rw [f6]
theorem pnt_0 {g gd : Nat → Int32} {mk : Nat → mkT} {x y : Nat} : pntD g gd mk 0 x y = false := rfl
theorem nI_z0 {n : Nat} (h : nI n = 0) (hn : n < 2 ^ 31) : n = 0 := (nI_eq (b := 0) hn (by omega)).mp h
/-- the size of an empty sheet -/
theorem ms_new {N d k r k' r' cp T : Nat} {p : Nat → Nat} {s : CS} {m : RS} (hd : isDpi d) (hk' : k' < 5) (hr' : r' < 4) (hW : shW T d k r s m) (dk : dkM k' r' cp p m.o_desk m.g_desk_state) (dp : fd_Ref_dpi m.o_this = nI d) :
    ∃ os', mMeasure N m = some (mShd m os' m.g_sheet_dots) ∧ (∃ sd, shR k' r' d s.o_sheet os' s.g_sheet_marks s.g_sheet_dots m.g_sheet_dots sd m.n_sheet_dots ∧ ∀ j, j < 5 → wdN j d ≤ 64 * sd ∧ sd * hgN j d ≤ m.n_sheet_dots) ∧ fd_mSheet_marks os' = 0 := by
  have hd3 : d ≤ 300 := by rcases hd with h | h | h <;> omega
  have a1 := (acr_tab k' hk').2
  have a2 := (dwn_tab k' hk').2
  have hwl := wd_le hk' hd3
  have ev : ∀ a : Nat, a ≤ 122400 → nI a * (nI d / 75) / 96 = nI (a * d / 7200) := fun a ha => by
    have h1 : nI d / 75 = nI (d / 75) := nI_div (b := 75) (by omega) (by omega)
    have hb : d / 75 ≤ 4 := by omega
    have hm : a * (d / 75) ≤ 122400 * 4 := Nat.mul_le_mul ha hb
    have h2 : nI (a * (d / 75)) / 96 = nI (a * (d / 75) / 96) := nI_div (b := 96) (by omega) (by omega)
    rw [h1, nI_mul, h2, dp_mul hd]
  obtain ⟨⟨sd, ⟨n, u, kd, nu, io, so, mk, h1, h2, h3, h4, h5, h6, h7, h8⟩, hrm⟩, hmk, hdu, hcm, hru⟩ := hW
  obtain ⟨j1, j2, j3, j4, j5, j6, j7⟩ := h8
  obtain ⟨x1, x2, x3, x4, x5, x6, x7, x8, x9, x10⟩ := j6
  have hn0 : n = 0 := nI_z0 (h3.symm.trans hmk) (by omega)
  subst hn0
  refine ⟨fs_mSheet_orientation (fs_mSheet_high (fs_mSheet_wide m.o_sheet (nI (wdN k' d))) (nI (hgN k' d))) (nI r'), ?_, ⟨sd, ⟨0, u, kd, nu, io, so, mk, h1, h2, h3, h4, h5, h6, h7, j1, j2, fun k hk => absurd hk (by omega), fun j hj => absurd hj (by omega), j5, ⟨x1, rfl, rfl, rfl, hr', (hrm k' hk').1, (hrm k' hk').2, x8, by omega, by omega⟩, fun x y hx hy => ?_⟩, hrm⟩, hmk⟩
  · unfold mMeasure
    refine Option.map_eq_some_iff.mpr ⟨_, ?_, rfl⟩
    unfold ex_Ref_measure
    rw [dk.1, md_across k' hk', md_down k' hk']
    simp only [Option.bind_some]
    rw [dp, ev _ (by omega), ev _ (by omega), dk.2.1]; rfl
  · rw [j7 x y hx hy, pnt_0, ite_self, ite_self]
theorem mcS_mono {T T' : Nat} {o : ob_Macros} {om : ob_mMacros} {ic pc lc tc bc col im tm lm bm buf : Nat → Int32} (hT : T ≤ T') (h : mcS T o om ic pc lc tc bc col im tm lm bm buf) : mcS T' o om ic pc lc tc bc col im tm lm bm buf := by
  obtain ⟨n, u, ln, h1, h2, h3, h4, h5, h6, h7, h8, h9⟩ := h
  refine ⟨n, u, ln, h1, h2, h3, h4, h5, h6, h7, h8, ?_⟩
  rcases h9 with h | ⟨a1, a2, a3, L, M, a4, a5, a6, a7, a8, a9⟩
  · exact Or.inl h
  · exact Or.inr ⟨a1, a2, a3, L, M, a4, a5, a6, a7, by omega, a9⟩
/-- both sides where the job has failed -/
def bF (N d T : Nat) (s : CS) (m : RS) (s' : CS) (m' : RS) : Prop := fd_Main_fault s'.o_this = 20 ∧ fd_Ref_fault m'.o_this = 20 ∧ (∃ k r cp p, cPg d k r cp p s' m') ∧ (∃ k r, shW T d k r s' m') ∧ cFo N s' m' ∧ fd_FontShelf_chosenKnown s'.o_fonts = 1 ∧ cRa d T s' m' ∧ cMa T s' m' ∧ cFl s' m' ∧ cIt s' ∧ kfG s s' ∧ rfG m m' ∧ dkI T m'.o_desk
/-- the class's round with an eject -/
theorem step_e {N : Nat} {s s1 s2 s3 s' : CS} {ev code : Int32} {oF : ob_FontShelf} {ch lf : Nat → Int32} (h1 : kNext N s = some (s1, ev)) (h2 : kAct N s1 ev = some s2) (h3 : kSettle N s2 = some s3) (hj : ¬ fd_Interpreter_ejecting s2.o_interpreter = 0) {u : rs_Main_printSheet} (h4 : kPrint N s3 = some (kPr s3 u, code)) (h5 : kFinish N (kFail (kPr s3 u) code) (if code = 0 then 0 else 1) = some s') : kStep N s = some s' := by
  unfold kStep
  refine (bind_eq h1).trans ?_
  refine (bind_eq h2).trans ?_
  refine (bind_eq h3).trans ?_
  rw [if_neg hj]
  refine (bind_eq h4).trans ?_
  by_cases q : code = 0
  · rw [if_pos q] at h5; exact (if_pos q).trans h5
  · rw [if_neg q] at h5; exact (if_neg q).trans h5
theorem st_E {N d k r cp T lv a z b i P k' r' cp' : Nat} {p p1 p' : Nat → Nat} {s : CS} {m : RS} {lm : Nat → Int32} {own gl ev : Int32} {o' : ob_Parser} {gd' : Nat → Int32} {om' : ob_mDesk} {g' gp' gg' go' gs' : Nat → Int32} {oi2 : ob_Interpreter} {s2 : CS} {e : Bool} (hN : 2 ^ 22 < N) (hC : cCo N d k r cp T p s m) (hSd : cSd s m) (hL : lvB lv a z b s) (hpre : mByte N m (nI b) = (mIsSeq N (mAdvd m lm i own)).bind (fun was => (mDesk N (mAdvd m lm i own) (nI b)).bind (fun s2 => mPost N (mAdvd m lm i own) s2 gl was)))
    (ht : ex_Parser_take N s.o_interpreter_parser s.g_interpreter_parser_data (nI b) = some (o', gd', ev)) (he16 : ev &&& 16 = 0)
    (ha : kAct N (kPut s (upd s.g_interpreter_at lv (nI (a + 1))) o' gd') ev = some s2) (hs2 : s2 = if e then kTk (kPg (kPut s (upd s.g_interpreter_at lv (nI (a + 1))) o' gd') oi2 (pgC d k r cp p1)) lv else kPg (kPut s (upd s.g_interpreter_at lv (nI (a + 1))) o' gd') oi2 (pgC d k r cp p1))
    (hj : ¬ fd_Interpreter_ejecting oi2 = 0) (hl2 : fd_Interpreter_level oi2 = fd_Interpreter_level s.o_interpreter) (hp14 : p1 4 ≤ 122400) (hp17 : p1 7 ≤ 122400)
    (hfin : ∀ oS oF mk dt ids gl fd_ ch v, finT N (fs_Interpreter_then (fs_Interpreter_ejecting oi2 0) 0) (pgC d k r cp (homN k r p1)) oS oF mk dt ids gl fd_ ch v (fd_Interpreter_then oi2) (fd_Interpreter_thenNumber oi2) (fd_Interpreter_thenStep oi2) = some (fs_Interpreter_then (fs_Interpreter_ejecting oi2 0) 0, pgC d k' r' cp' p', oS, mk, dt))
    (hk' : k' < 5) (hr' : r' < 4) (hcp : 1 ≤ cp' ∧ cp' ≤ 99) (hok : pOK k' r' p') (hst : stk p' s.g_page_stack)
    (hdk : ex_mDesk_comes N (fs_mDesk_thrown m.o_desk 0) m.g_desk_state m.g_desk_page (upd m.g_desk_steps i own) m.g_desk_glyph m.g_desk_other m.g_desk_store (nI b) = some (om', g', gp', gg', go', gs')) (hT : T < 2 ^ 29) (hP : fd_mDesk_pages m.o_desk = nI P) (hP2 : fd_mDesk_pages om' = nI (P + 1)) (hP3 : P < 2 ^ 29) (hgp : gp' (4 * (P % 40) + 3) = nI cp) (hdI : dkI (T + 4) om') (hdu : dueB om' = false) (hcm : fd_mDesk_came om' = 0) (hot : fd_mDesk_others om' = 0) (hM : dkM k' r' cp' p' om' g') (hps : psR o' gd' om' go' gs') (hen : enB (fs_mDesk_thrown m.o_desk 0) om' = e) :
    ∃ s' m' e', kRun N 1 s s' ∧ mByte N m (nI b) = some (m', e') ∧ (bRes N d (T + 4) lv a s m s' m' e' ∨ (e' = false ∧ bF N d (T + 4) s m s' m')) := by
  obtain ⟨hPg, hSh, hFo, hKn, hRa, hMa, hFl, hFa, hIt⟩ := hC
  obtain ⟨pd, pk, pr, pcp, pp, pok, pst, pdk, pd1, pd2⟩ := hPg
  have hL0 := hL
  obtain ⟨l1, l2, l3, l4, l5, l6, l7, l8, l9⟩ := hL
  have kn := kn_byte (N := N) l1 l2 l3 l4 l5 l6 l7 l8 l9 ht
  rw [if_pos he16] at kn
  obtain ⟨m2, hm2⟩ : ∃ m2, m2 = mDk (mAdvd m lm i own) (om', g', gp', gg', go', gs') := ⟨_, rfl⟩
  have hfo2 : cFo N s2 m2 := by rw [hm2, hs2]; cases e <;> exact hFo
  obtain ⟨oF, ch, lf, r1, r2, r3, r4⟩ := settle_ok (N := N) (m := m2) (by omega) hfo2
  obtain ⟨s3, hs3⟩ : ∃ s3, s3 = kFo s2 oF ch lf := ⟨_, rfl⟩
  rw [← hs3] at r1 r2
  obtain ⟨ok, u, w, y1, y2, y3, y4, y5, y6⟩ := pr_both (N := N) (d := d) (k := k) (r := r) (cp := cp) (T := T + 4) (P := P) (p := p1) (s := s3) (m := m2) hN pd pk pr pcp (by rw [hs3, hs2]; cases e <;> rfl) (by rw [hs3, hs2]; cases e <;> exact pd1) (by rw [hm2]; exact pd2) (by rw [hs3, hs2, hm2]; cases e <;> exact hSh.2.2.1) (by rw [hs3, hs2, hm2]; cases e <;> exact hSh.2.2.2.2.1) (by rw [hs3, hs2, hm2]; cases e <;> exact hSh.2.2.2.2.2) (by rw [hs3, hs2, hm2]; cases e <;> exact hFl) (by rw [hs3, hs2, hm2]; cases e <;> exact hFa) (by omega) (by rw [hm2]; exact hP2) (by rw [hm2]; exact hgp)
  obtain ⟨u1, ur⟩ := u
  obtain ⟨w1, wr⟩ := w
  have y5' : u1 = fs_Main_overruns s3.o_this (fd_Main_overruns u1) := y5
  have y6' : w1 = (if ok then fs_Ref_overruns m2.o_this (fd_Main_overruns u1) else fs_Ref_fault (fs_Ref_overruns m2.o_this (fd_Main_overruns u1)) 20) := y6
  obtain ⟨ov, hov⟩ : ∃ ov, ov = fd_Main_overruns u1 := ⟨_, rfl⟩
  rw [← hov] at y5' y6'
  have ej3 : ¬ fd_Interpreter_ejecting s3.o_interpreter = 0 := by rw [hs3, hs2]; cases e <;> exact hj
  have oi3 : s3.o_interpreter = oi2 := by rw [hs3, hs2]; cases e <;> rfl
  have pg3 : s3.o_page = pgC d k r cp p1 := by rw [hs3, hs2]; cases e <;> rfl
  have hgo : ex_Page_goHome N (pgC d k r cp p1) = some (pgC d k r cp (homN k r p1)) := pg_homeC pk pr hp14 hp17
  obtain ⟨code, hcode⟩ : ∃ code : Int32, code = if ok then 0 else 20 := ⟨_, rfl⟩
  rw [← hcode] at y1
  obtain ⟨s', hs'⟩ : ∃ s', s' = kFin (kFail (kPr s3 (u1, ur)) code) (fs_Interpreter_then (fs_Interpreter_ejecting oi2 0) 0) (pgC d k' r' cp' p') (kPr s3 (u1, ur)).o_sheet s3.g_sheet_marks s3.g_sheet_dots := ⟨_, rfl⟩
  have hfi : kFinish N (kFail (kPr s3 (u1, ur)) code) (if code = 0 then 0 else 1) = some s' := by
    unfold kFinish
    refine Option.map_eq_some_iff.mpr ⟨(fs_Interpreter_then (fs_Interpreter_ejecting oi2 0) 0, pgC d k' r' cp' p', (kPr s3 (u1, ur)).o_sheet, s3.g_sheet_marks, s3.g_sheet_dots), ?_, by rw [hs']; rfl⟩
    have e1 : CS.o_interpreter (kFail (kPr s3 (u1, ur)) code) = oi2 := oi3
    have e2 : CS.o_page (kFail (kPr s3 (u1, ur)) code) = pgC d k r cp p1 := pg3
    rw [e1, e2, fin_e hj hgo]
    exact hfin _ _ _ _ _ _ _ _ _
  have hst' : kStep N s = some s' := step_e (oF := oF) (ch := ch) (lf := lf) kn ha r1 (by rw [hs2]; cases e <;> exact hj) y1 hfi
  have hrun := kRun.one hFa.1 (more_ok hL0) hst'
  have hdk' : mDesk N (mAdvd m lm i own) (nI b) = some m2 := by
    rw [hm2]; unfold mDesk
    exact Option.map_eq_some_iff.mpr ⟨_, hdk, rfl⟩
  have hnp : ¬ fd_mDesk_pages m2.o_desk ≤ fd_mDesk_pages (mAdvd m lm i own).o_desk := by
    rw [show fd_mDesk_pages m2.o_desk = nI (P + 1) by rw [hm2]; exact hP2, show fd_mDesk_pages (mAdvd m lm i own).o_desk = nI P from hP]
    exact nI_ge (by omega) (by omega)
  have kf : kfG s s3 := by rw [hs3, hs2]; cases e <;> exact kfG_refl s
  have kf' : kfG s s' := by
    refine kfG_trans kf ?_
    rw [hs', y5']
    exact kfG_refl s3
  have lvf : lvF lv a s s' := by
    rw [hs', hs3, hs2]; cases e <;> exact ⟨rfl, rfl, rfl, rfl, rfl, hl2⟩
  have hIt' : cIt s' := by rw [hs']; exact ⟨rfl, rfl⟩
  have hFo' : cFo N s' (mPr m2 (w1, wr)) := by rw [hs']; exact r2
  have hKn' : fd_FontShelf_chosenKnown s'.o_fonts = 1 := by rw [hs', hs3]; exact r3
  have hMa' : cMa (T + 4) s' (mPr m2 (w1, wr)) := by
    obtain ⟨b1, b2, b3, b4⟩ := hMa
    rw [hs', hs3, hs2, y6', hm2]
    cases e <;> cases ok <;> exact ⟨mcS_mono (by omega) b1, b2, b3, b4⟩
  have hRa' : cRa d (T + 4) s' (mPr m2 (w1, wr)) := by
    have hRm := rsR_mono (T' := T + 4) (by omega) hRa
    rw [hs', hs3, hs2, y6', hm2]
    cases e <;> cases ok <;> exact hRm
  have hFl' : cFl s' (mPr m2 (w1, wr)) := by rw [hs']; exact y4
  have hSW : shW (T + 4) d k r s' (mPr m2 (w1, wr)) := by rw [hs']; exact y3
  have hdp' : fd_Ref_dpi (mPr m2 (w1, wr)).o_this = nI d := by
    show fd_Ref_dpi w1 = nI d
    rw [y6', hm2]; cases ok <;> exact pd2
  have hdp1 : fd_Main_dpi s'.o_this = nI d := by
    rw [hs']
    show fd_Main_dpi (fs_Main_fault u1 code) = nI d
    rw [y5', hs3, hs2]; cases e <;> exact pd1
  have hPg' : cPg d k' r' cp' p' s' (mPr m2 (w1, wr)) := by
    refine ⟨pd, hk', hr', hcp, by rw [hs']; rfl, hok, ?_, ?_, hdp1, hdp'⟩
    · rw [hs', hs3, hs2]; cases e <;> exact hst
    · rw [hm2]; exact hM
  have rfm : rfM m (mPr m2 (w1, wr)) := by
    rw [y6', hm2]; cases ok <;> exact rfM_refl m
  cases ok with
  | false =>
    refine ⟨s', mPr m2 (w1, wr), false, hrun, ?_, Or.inr ⟨rfl, ?_, ?_, ⟨k', r', cp', p', hPg'⟩, ⟨k, r, hSW⟩, hFo', hKn', hRa', hMa', hFl', hIt', kf', rfm.2.2.2.2.2.2.2.2.2.2.2.2.2, by rw [hm2]; exact hdI⟩⟩
    · rw [hpre]
      refine (bind_eq is_seq).trans ?_
      refine (bind_eq hdk').trans ?_
      unfold mPost
      rw [if_neg hnp]
      refine (bind_eq y2).trans ?_
      exact if_neg (show ¬ fd_Ref_fault w1 ≤ 0 by rw [y6']; show ¬ ((20 : Int32) ≤ 0); decide)
    · rw [hs', hcode]; rfl
    · show fd_Ref_fault w1 = 20; rw [y6']; rfl
  | true =>
    obtain ⟨os', z1, z2, z3⟩ := ms_new (N := N) (k' := k') (r' := r') pd hk' hr' hSW (by rw [hm2]; exact hM) hdp'
    obtain ⟨m3, hm3⟩ : ∃ m3, m3 = mShd (mPr m2 (w1, wr)) os' (mPr m2 (w1, wr)).g_sheet_dots := ⟨_, rfl⟩
    rw [← hm3] at z1
    have hmm : mMeasure N m3 = some m3 := by
      obtain ⟨sd, q1, q2⟩ := z2
      rw [hm3]
      exact mm_same pd hk' (sh_M q1) (by rw [hm2]; exact hM) hdp'
    have hOt : mOthers N N m3 = some m3 := by
      obtain ⟨z, rfl⟩ : ∃ z, N = z + 1 := ⟨N - 1, by omega⟩
      rw [mOthers, if_pos (show fd_mDesk_others m3.o_desk ≤ 0 by rw [hm3, hm2]; show fd_mDesk_others om' ≤ 0; rw [hot]; decide)]
    have hTl : mTail N (mPr m2 (w1, wr)) gl = some m3 := by
      unfold mTail
      refine (bind_eq z1).trans ?_
      rw [if_pos (show fd_mDesk_came m3.o_desk = 0 by rw [hm3, hm2]; exact hcm)]
      exact hOt
    have hEn : mEnd N (mPr m2 (w1, wr)) gl (nI (decide (¬ fd_mDesk_phase (mAdvd m lm i own).o_desk ≤ 1)).toNat) = some (m3, e) := by
      have hq := me_q (N := N) (m := m3) (gl := gl) (w := decide (¬ fd_mDesk_phase (mAdvd m lm i own).o_desk ≤ 1)) (by omega) hmm (by rw [hm3, hm2]; exact hcm) (Or.inl (by rw [hm3, hm2]; exact hot))
      have : mEnd N (mPr m2 (w1, wr)) gl (nI (decide (¬ fd_mDesk_phase (mAdvd m lm i own).o_desk ≤ 1)).toNat) = mEnd N m3 gl (nI (decide (¬ fd_mDesk_phase (mAdvd m lm i own).o_desk ≤ 1)).toNat) := by
        have hTl3 : mTail N m3 gl = some m3 := by
          unfold mTail
          refine (bind_eq hmm).trans ?_
          rw [if_pos (show fd_mDesk_came m3.o_desk = 0 by rw [hm3, hm2]; exact hcm)]
          exact hOt
        unfold mEnd
        rw [hTl, hTl3]
      rw [this, hq, ← hen, hm3, hm2]; rfl
    refine ⟨s', m3, e, hrun, ?_, Or.inl ⟨⟨k', r', cp', p', ?_⟩, ?_, lvf, kf', ?_, ?_⟩⟩
    · rw [hpre]
      refine (bind_eq is_seq).trans ?_
      refine (bind_eq hdk').trans ?_
      unfold mPost
      rw [if_neg hnp]
      refine (bind_eq y2).trans ?_
      refine (if_pos (show fd_Ref_fault w1 ≤ 0 by rw [y6', hm2]; exact Int32.le_of_eq hFa.2)).trans ?_
      exact hEn
    · rw [hm3]
      refine ⟨hPg', ⟨?_, ?_, z2, fun _ => z3, hSW.2.2.2.1, hSW.2.2.2.2⟩, hFo', hKn', hRa', hMa', hFl', ⟨?_, ?_⟩, hIt'⟩
      · rw [hm2]; exact hdI
      · show fd_Sheet_due s'.o_sheet = nI (dueB (mPr m2 (w1, wr)).o_desk).toNat
        rw [hSW.2.2.1, hm2]
        show 0 = nI (dueB om').toNat
        rw [hdu]; rfl
      · rw [hs', hcode]; rfl
      · show fd_Ref_fault w1 = 0
        rw [y6', hm2]; exact hFa.2
    · rw [hm3, hs', hs3, hs2, hm2]; cases e <;> exact hps
    · rw [hs', hs3, hs2]
      cases e with
      | false =>
        refine ⟨fun _ => ⟨⟨rfl, rfl, rfl, rfl⟩, ?_⟩, fun h => absurd h (by decide)⟩
        rw [hm3, y6', hm2]; exact hSd
      | true =>
        refine ⟨fun h => absurd h (by decide), fun _ => ?_⟩
        have := tk_acts (lv := lv) (s := kPg (kPut s (upd s.g_interpreter_at lv (nI (a + 1))) o' gd') oi2 (pgC d k r cp p1)) (m := m3) l2 (by rw [hm3, y6', hm2]; exact hSd)
        exact this
    · rw [hm3]; exact rfm
theorem cCo_mono {N d k r cp T T' : Nat} {p : Nat → Nat} {s : CS} {m : RS} (hT : T ≤ T') (h : cCo N d k r cp T p s m) : cCo N d k r cp T' p s m := by
  obtain ⟨h1, h2, h3, h4, h5, h6, h7, h8, h9⟩ := h
  exact ⟨h1, ⟨h2.1.mono hT, h2.2⟩, h3, h4, rsR_mono hT h5, ⟨mcS_mono hT h6.1, h6.2⟩, h7, h8, h9⟩
theorem bRes_mono {N d T T' lv a : Nat} {s s' : CS} {m m' : RS} {e : Bool} (hT : T ≤ T') (h : bRes N d T lv a s m s' m' e) : bRes N d T' lv a s m s' m' e := by
  obtain ⟨⟨k, r, cp, p, h1⟩, h2⟩ := h
  exact ⟨⟨k, r, cp, p, cCo_mono hT h1⟩, h2⟩
/-- the result of a byte, or a fault -/
def bR (N d T lv a b : Nat) (s : CS) (m : RS) : Prop := ∃ s' m' e, kRun N 1 s s' ∧ mByte N m (nI b) = some (m', e) ∧ (bRes N d (T + 4) lv a s m s' m' e ∨ (e = false ∧ bF N d (T + 4) s m s' m'))
theorem bR_of {N d T lv a b : Nat} {s : CS} {m : RS} (h : ∃ s' m' e, kRun N 1 s s' ∧ mByte N m (nI b) = some (m', e) ∧ bRes N d T lv a s m s' m' e) : bR N d T lv a b s m := by
  obtain ⟨s', m', e, h1, h2, h3⟩ := h
  exact ⟨s', m', e, h1, h2, Or.inl (bRes_mono (by omega) h3)⟩
theorem ok_hi {k r i v : Nat} {p : Nat → Nat} (hp : pOK k r p) (h : (i = 11 ∧ v ≤ 1) ∨ (i = 8 ∧ v ≤ 1) ∨ (i = 9 ∧ v ≤ 1) ∨ (i = 10 ∧ v ≤ 3) ∨ (i = 6 ∧ v ≤ 1966080) ∨ (i = 7 ∧ v ≤ 122400)) : pOK k r (nset p i v) := by
  obtain ⟨b0, b1, b2, b3, b4, b5, b6, b7, b8, b9, b10, b11, b12, b13⟩ := hp
  rcases h with ⟨rfl, hv⟩ | ⟨rfl, hv⟩ | ⟨rfl, hv⟩ | ⟨rfl, hv⟩ | ⟨rfl, hv⟩ | ⟨rfl, hv⟩
  · exact ⟨b0, b1, b2, b3, b4, b5, b6, b7, b8, b9, b10, hv, b12, fun j hj => by rw [nset_ne _ _ (by omega)]; exact b13 j hj⟩
  · exact ⟨b0, b1, b2, b3, b4, b5, b6, b7, hv, b9, b10, b11, b12, fun j hj => by rw [nset_ne _ _ (by omega)]; exact b13 j hj⟩
  · exact ⟨b0, b1, b2, b3, b4, b5, b6, b7, b8, hv, b10, b11, b12, fun j hj => by rw [nset_ne _ _ (by omega)]; exact b13 j hj⟩
  · exact ⟨b0, b1, b2, b3, b4, b5, b6, b7, b8, b9, hv, b11, b12, fun j hj => by rw [nset_ne _ _ (by omega)]; exact b13 j hj⟩
  · exact ⟨b0, b1, b2, b3, b4, b5, hv, b7, b8, b9, b10, b11, b12, fun j hj => by rw [nset_ne _ _ (by omega)]; exact b13 j hj⟩
  · exact ⟨b0, b1, b2, b3, b4, b5, b6, hv, b8, b9, b10, b11, b12, fun j hj => by rw [nset_ne _ _ (by omega)]; exact b13 j hj⟩
/-- a page that keeps its places -/
def hiS (p q : Nat → Nat) : Prop := ∀ i, 12 ≤ i → q i = p i
theorem hiS_n {p q : Nat → Nat} {i v : Nat} (h : hiS p q) (hi : i < 12) : hiS p (nset q i v) := fun j hj => by rw [nset_ne _ _ (by omega)]; exact h j hj
theorem hiS_r (p : Nat → Nat) : hiS p p := fun _ _ => rfl
theorem stk_S {p q : Nat → Nat} {g : Nat → Int32} (h : hiS p q) (hs : stk p g) : stk q g := fun i hi => by
  rw [h 12 (by omega)] at hi
  rw [h (13 + i) (by omega)]; exact hs i hi
theorem ctl1_S (k r : Nat) (p : Nat → Nat) (b : Nat) : hiS p (ctl1 k r p b) := by
  unfold ctl1 crN
  split
  · exact hiS_n (hiS_r p) (by omega)
  split
  · exact hiS_n (hiS_r p) (by omega)
  split
  · exact hiS_n (hiS_r p) (by omega)
  split
  · exact hiS_n (hiS_r p) (by omega)
  split
  · exact hiS_n (hiS_r p) (by omega)
  · exact hiS_r p
theorem ctlN_S (k r : Nat) (p : Nat → Nat) (b : Nat) : hiS p (ctlN k r p b) := by
  unfold ctlN
  split
  · exact hiS_n (ctl1_S k r p b) (by omega)
  · exact ctl1_S k r p b
theorem ctl1_ok {k r b : Nat} {p : Nat → Nat} (hp : pOK k r p) : pOK k r (ctl1 k r p b) := by
  unfold ctl1
  split
  · exact ok_X hp (Nat.min_le_right _ _)
  split
  · exact ok_X hp (Nat.min_le_right _ _)
  split
  · exact crN_ok hp
  split
  · exact ok_hi hp (Or.inl ⟨rfl, by omega⟩)
  split
  · exact ok_hi hp (Or.inl ⟨rfl, by omega⟩)
  · exact hp
theorem ctl1_7 (k r : Nat) (p : Nat → Nat) (b : Nat) : ctl1 k r p b 7 = p 7 := by
  unfold ctl1 crN
  split
  · exact nset_ne _ _ (by decide)
  split
  · exact nset_ne _ _ (by decide)
  split
  · exact nset_ne _ _ (by decide)
  split
  · exact nset_ne _ _ (by decide)
  split
  · exact nset_ne _ _ (by decide)
  · rfl
theorem ctlN_ok {k r b : Nat} {p : Nat → Nat} (hp : pOK k r p) (h : ctlE k r p b = false) : pOK k r (ctlN k r p b) := by
  unfold ctlN
  cases hL : ctlL p b with
  | false => exact ctl1_ok hp
  | true =>
    have : lfE k r (ctl1 k r p b) (p 7) = false := by
      unfold ctlE at h
      rw [hL, Bool.or_eq_false_iff] at h
      exact h.2
    exact lf_ok (ctl1_ok hp) this
theorem dk_pages {T : Nat} {o : ob_mDesk} (h : dkI T o) : ∃ P, P ≤ T ∧ fd_mDesk_pages o = nI P := by
  obtain ⟨A, G, P, i1, i2, i3, i4, i5, i6, i7⟩ := h
  exact ⟨P, i6, i3⟩
theorem st_T {N d k r cp T lv a z b i : Nat} {p : Nat → Nat} {s : CS} {m : RS} {lm : Nat → Int32} {own gl : Int32} (hN : 2 ^ 22 < N) (hT : T < 2 ^ 28) (hC : cCo N d k r cp T p s m) (hSd : cSd s m) (hL : lvB lv a z b s) (hpre : mByte N m (nI b) = (mIsSeq N (mAdvd m lm i own)).bind (fun was => (mDesk N (mAdvd m lm i own) (nI b)).bind (fun s2 => mPost N (mAdvd m lm i own) s2 gl was)))
    (ho : oT N b s.o_interpreter_parser s.g_interpreter_parser_data (fs_mDesk_thrown m.o_desk 0) m.g_desk_state m.g_desk_page (upd m.g_desk_steps i own) m.g_desk_glyph m.g_desk_other m.g_desk_store) : bR N d T lv a b s m := by
  obtain ⟨hb, o', t1, t2, t3, t4, t5⟩ := ho
  have hC0 := hC
  obtain ⟨hPg, hSh, hFo, hKn, hRa, hMa, hFl, hFa, hIt⟩ := hC
  obtain ⟨pd, pk, pr, pcp, pp, pok, pst, pdk, pd1, pd2⟩ := hPg
  obtain ⟨P, P1, P2⟩ := dk_pages hSh.1
  have hM0 : dkM k r cp p (cm0 (fs_mDesk_thrown m.o_desk 0)) m.g_desk_state := dkM_Q pdk ⟨rfl, rfl, rfl, rfl, rfl, rfl, rfl, rfl, rfl⟩
  obtain ⟨g', gp', c1, c2, c3⟩ := md_control (N := N) (gp := m.g_desk_page) (P := P) pk pok (by omega) (show fd_mDesk_pages (cm0 (fs_mDesk_thrown m.o_desk 0)) = nI P from P2) hM0 hb
  obtain ⟨oi', p', q1, q2, q3⟩ := ic_control (N := N) (d := d) (cp := cp) (oi := s.o_interpreter) pk pr pok hb hIt.1
  have hkd : ∀ gd9 at9 : Nat → Int32, kDo N (kPut s at9 o' gd9) (if (2 : Int32) &&& 7 = 4 then (fd_Parser_family (kPut s at9 o' gd9).o_interpreter_parser <<< ((8 : Int32) &&& 31)) ||| fd_Parser_group (kPut s at9 o' gd9).o_interpreter_parser else 2 &&& 7) = some (kPg (kPut s at9 o' gd9) oi' (pgC d k r cp p')) := fun gd9 at9 => by
    rw [if_neg (show ¬ ((2 : Int32) &&& 7 = 4) by decide), show (2 : Int32) &&& 7 = 2 by decide]
    show kCtl N (kPut s at9 o' gd9) (fd_Parser_taken o') = _
    unfold kCtl
    refine Option.map_eq_some_iff.mpr ⟨(oi', pgC d k r cp p'), ?_, rfl⟩
    rw [t2]
    show ex_Interpreter_doControl N s.o_interpreter s.o_page (nI b) = _
    rw [pp]; exact q1
  cases hE : ctlE k r p b with
  | false =>
    rw [hE] at c1
    obtain ⟨q4, q5⟩ := q3 hE
    obtain ⟨c4, c5⟩ := c3 hE
    subst q4 q5
    have hu := t5 (cm0 (fs_mDesk_thrown m.o_desk 0)) (dkF.refl _)
    refine bR_of (st_P (e := false) (cp' := cp) (p' := ctlN k r p b) (gk := s.g_page_stack) (s2 := kPs (kPut s (upd s.g_interpreter_at lv (nI (a + 1))) o' s.g_interpreter_parser_data) (pgC d k r cp (ctlN k r p b)) s.g_page_stack) hN hC0 hSd hL hpre t1 (by decide) ?_ rfl pcp (ctlN_ok pok hE) (stk_S (ctlN_S k r p b) pst) (t3.trans (bind_eq c1)) (dkP_Q (dkQ_trans (b := fs_mDesk_thrown m.o_desk 0) ⟨rfl, rfl, rfl, rfl, rfl, rfl, rfl, rfl, rfl⟩ (dkQ_refl _))) rfl (Or.inl hu.2) c4 hu.1 ?_)
    · exact ka_do (lv := lv) false (by decide) (hkd _ _) hL.1 hL.2.1
    · unfold enB
      rw [decide_eq_false (fun h => h t4)]; rfl
  | true =>
    rw [hE] at c1
    obtain ⟨q4, q5⟩ := q2 hE
    obtain ⟨c4, c5⟩ := c2 hE
    subst q4 q5
    have h1ok := ctl1_ok (b := b) pok
    have hu := t5 (ejO (cm0 (fs_mDesk_thrown m.o_desk 0))) (ejO_F _)
    have hI0 : dkI T (cm0 (fs_mDesk_thrown m.o_desk 0)) := dkI_P ⟨rfl, rfl, rfl, rfl⟩ hSh.1
    exact st_E (e := false) (P := P) (cp' := cp) (p1 := ctl1 k r p b) (p' := homN k r (ctl1 k r p b)) (oi2 := fs_Interpreter_ejecting s.o_interpreter 1) (s2 := kPg (kPut s (upd s.g_interpreter_at lv (nI (a + 1))) o' s.g_interpreter_parser_data) (fs_Interpreter_ejecting s.o_interpreter 1) (pgC d k r cp (ctl1 k r p b))) hN hC0 hSd hL hpre t1 (by decide) (ka_do (lv := lv) false (by decide) (hkd _ _) hL.1 hL.2.1) rfl (show ¬ ((1 : Int32) = 0) by decide) rfl h1ok.2.2.2.2.1 h1ok.2.2.2.2.2.2.2.1 (fun oS oF mk dt ids gl fd_ ch v => by
        unfold finT
        have h0 : fd_Interpreter_then (fs_Interpreter_ejecting s.o_interpreter 1) = 0 := hIt.2
        rw [h0]; rfl) pk pr pcp (hom_ok h1ok) (stk_S (hiS_n (ctl1_S k r p b) (by omega)) pst) (t3.trans (bind_eq c1)) (by omega) P2 (by show fd_mDesk_pages m.o_desk + 1 = _; rw [P2, nI_1]) (by omega) c5 ((ejO_I hI0).mono (by omega)) (ejO_due _) rfl hu.2 c4 hu.1 (by
        unfold enB
        rw [decide_eq_false (fun h => h t4)]; rfl)
/-- a byte that changes the page's size, where nothing is due -/
theorem st_R {N d k r cp T lv a z b i k' r' cp' : Nat} {p p1 p' : Nat → Nat} {s : CS} {m : RS} {lm : Nat → Int32} {own gl ev : Int32} {o' : ob_Parser} {gd' : Nat → Int32} {om' : ob_mDesk} {g' gp' gg' go' gs' : Nat → Int32} {oi2 : ob_Interpreter} {s2 : CS} {e : Bool} (hN : 2 ^ 22 < N) (hC : cCo N d k r cp T p s m) (hSd : cSd s m) (hL : lvB lv a z b s) (hpre : mByte N m (nI b) = (mIsSeq N (mAdvd m lm i own)).bind (fun was => (mDesk N (mAdvd m lm i own) (nI b)).bind (fun s2 => mPost N (mAdvd m lm i own) s2 gl was)))
    (ht : ex_Parser_take N s.o_interpreter_parser s.g_interpreter_parser_data (nI b) = some (o', gd', ev)) (he16 : ev &&& 16 = 0)
    (ha : kAct N (kPut s (upd s.g_interpreter_at lv (nI (a + 1))) o' gd') ev = some s2) (hs2 : s2 = if e then kTk (kPg (kPut s (upd s.g_interpreter_at lv (nI (a + 1))) o' gd') oi2 (pgC d k r cp p1)) lv else kPg (kPut s (upd s.g_interpreter_at lv (nI (a + 1))) o' gd') oi2 (pgC d k r cp p1))
    (hj : fd_Interpreter_ejecting oi2 = 0) (hl2 : fd_Interpreter_level oi2 = fd_Interpreter_level s.o_interpreter)
    (hfin : ∀ oS oF mk dt ids gl fd_ ch v, finT N (fs_Interpreter_then oi2 0) (pgC d k r cp p1) oS oF mk dt ids gl fd_ ch v (fd_Interpreter_then oi2) (fd_Interpreter_thenNumber oi2) (fd_Interpreter_thenStep oi2) = some (fs_Interpreter_then oi2 0, pgC d k' r' cp' p', oS, mk, dt))
    (hk' : k' < 5) (hr' : r' < 4) (hcp : 1 ≤ cp' ∧ cp' ≤ 99) (hok : pOK k' r' p') (hst : stk p' s.g_page_stack)
    (hdk : ex_mDesk_comes N (fs_mDesk_thrown m.o_desk 0) m.g_desk_state m.g_desk_page (upd m.g_desk_steps i own) m.g_desk_glyph m.g_desk_other m.g_desk_store (nI b) = some (om', g', gp', gg', go', gs')) (hdP : dkP m.o_desk om') (hdu : dueB m.o_desk = false) (hcm : fd_mDesk_came om' = 0) (hot : fd_mDesk_others om' = 0) (hM : dkM k' r' cp' p' om' g') (hps : psR o' gd' om' go' gs') (hen : enB (fs_mDesk_thrown m.o_desk 0) om' = e) :
    ∃ s' m' e, kRun N 1 s s' ∧ mByte N m (nI b) = some (m', e) ∧ bRes N d T lv a s m s' m' e := by
  obtain ⟨hPg, hSh, hFo, hKn, hRa, hMa, hFl, hFa, hIt⟩ := hC
  obtain ⟨pd, pk, pr, pcp, pp, pok, pst, pdk, pd1, pd2⟩ := hPg
  have hL0 := hL
  obtain ⟨l1, l2, l3, l4, l5, l6, l7, l8, l9⟩ := hL
  have kn := kn_byte (N := N) l1 l2 l3 l4 l5 l6 l7 l8 l9 ht
  rw [if_pos he16] at kn
  obtain ⟨m2, hm2⟩ : ∃ m2, m2 = mDk (mAdvd m lm i own) (om', g', gp', gg', go', gs') := ⟨_, rfl⟩
  have hfo2 : cFo N s2 m2 := by rw [hm2, hs2]; cases e <;> exact hFo
  obtain ⟨oF, ch, lf, r1, r2, r3, r4⟩ := settle_ok (N := N) (m := m2) (by omega) hfo2
  obtain ⟨s3, hs3⟩ : ∃ s3, s3 = kFo s2 oF ch lf := ⟨_, rfl⟩
  rw [← hs3] at r1 r2
  have oi3 : s3.o_interpreter = oi2 := by rw [hs3, hs2]; cases e <;> rfl
  have pg3 : s3.o_page = pgC d k r cp p1 := by rw [hs3, hs2]; cases e <;> rfl
  obtain ⟨s', hs'⟩ : ∃ s', s' = kFin s3 (fs_Interpreter_then oi2 0) (pgC d k' r' cp' p') s3.o_sheet s3.g_sheet_marks s3.g_sheet_dots := ⟨_, rfl⟩
  have hfi : kFinish N s3 0 = some s' := by
    unfold kFinish
    refine Option.map_eq_some_iff.mpr ⟨(fs_Interpreter_then oi2 0, pgC d k' r' cp' p', s3.o_sheet, s3.g_sheet_marks, s3.g_sheet_dots), ?_, by rw [hs']; rfl⟩
    rw [oi3, pg3, fin_n hj]
    exact hfin _ _ _ _ _ _ _ _ _
  have hst' : kStep N s = some s' := by
    unfold kStep
    refine (bind_eq kn).trans ?_
    refine (bind_eq ha).trans ?_
    refine (bind_eq r1).trans ?_
    rw [if_pos (show fd_Interpreter_ejecting s2.o_interpreter = 0 by rw [hs2]; cases e <;> exact hj), if_pos hFa.1]
    exact hfi
  have hrun := kRun.one hFa.1 (more_ok hL0) hst'
  have hdk' : mDesk N (mAdvd m lm i own) (nI b) = some m2 := by
    rw [hm2]; unfold mDesk
    exact Option.map_eq_some_iff.mpr ⟨_, hdk, rfl⟩
  have hSW : shW T d k r s' m2 := by
    rw [hs', hs3, hs2, hm2]
    have hd0 : fd_Sheet_due s.o_sheet = 0 := by rw [hSh.2.1, hdu]; rfl
    cases e <;> exact ⟨hSh.2.2.1, hSh.2.2.2.1 hdu, hd0, hSh.2.2.2.2.1, hSh.2.2.2.2.2⟩
  obtain ⟨os', z1, z2, z3⟩ := ms_new (N := N) (k' := k') (r' := r') pd hk' hr' hSW (by rw [hm2]; exact hM) (by rw [hm2]; exact pd2)
  obtain ⟨m3, hm3⟩ : ∃ m3, m3 = mShd m2 os' m2.g_sheet_dots := ⟨_, rfl⟩
  rw [← hm3] at z1
  have hmm : mMeasure N m3 = some m3 := by
    obtain ⟨sd, q1, q2⟩ := z2
    rw [hm3]
    exact mm_same pd hk' (sh_M q1) (by rw [hm2]; exact hM) (by rw [hm2]; exact pd2)
  have hOt : mOthers N N m3 = some m3 := by
    obtain ⟨z, rfl⟩ : ∃ z, N = z + 1 := ⟨N - 1, by omega⟩
    rw [mOthers, if_pos (show fd_mDesk_others m3.o_desk ≤ 0 by rw [hm3, hm2]; show fd_mDesk_others om' ≤ 0; rw [hot]; decide)]
  have hTl : mTail N m2 gl = some m3 := by
    unfold mTail
    refine (bind_eq z1).trans ?_
    rw [if_pos (show fd_mDesk_came m3.o_desk = 0 by rw [hm3, hm2]; exact hcm)]
    exact hOt
  have hEn : mEnd N m2 gl (nI (decide (¬ fd_mDesk_phase (mAdvd m lm i own).o_desk ≤ 1)).toNat) = some (m3, e) := by
    have hq := me_q (N := N) (m := m3) (gl := gl) (w := decide (¬ fd_mDesk_phase (mAdvd m lm i own).o_desk ≤ 1)) (by omega) hmm (by rw [hm3, hm2]; exact hcm) (Or.inl (by rw [hm3, hm2]; exact hot))
    have : mEnd N m2 gl (nI (decide (¬ fd_mDesk_phase (mAdvd m lm i own).o_desk ≤ 1)).toNat) = mEnd N m3 gl (nI (decide (¬ fd_mDesk_phase (mAdvd m lm i own).o_desk ≤ 1)).toNat) := by
      have hTl3 : mTail N m3 gl = some m3 := by
        unfold mTail
        refine (bind_eq hmm).trans ?_
        rw [if_pos (show fd_mDesk_came m3.o_desk = 0 by rw [hm3, hm2]; exact hcm)]
        exact hOt
      unfold mEnd
      rw [hTl, hTl3]
    rw [this, hq, ← hen, hm3, hm2]; rfl
  refine ⟨s', m3, e, hrun, ?_, ⟨k', r', cp', p', ?_⟩, ?_, ?_, ?_, ?_, ?_⟩
  · rw [hpre]
    refine (bind_eq is_seq).trans ?_
    refine (bind_eq hdk').trans ?_
    unfold mPost
    rw [if_pos (show fd_mDesk_pages m2.o_desk ≤ fd_mDesk_pages (mAdvd m lm i own).o_desk by rw [hm2]; exact Int32.le_of_eq hdP.2.2.2)]
    exact hEn
  · have hFo' : cFo N s' m3 := by rw [hs', hm3]; exact r2
    have hKn' : fd_FontShelf_chosenKnown s'.o_fonts = 1 := by rw [hs', hs3]; exact r3
    have hSh3 : cSh T d k' r' s' m3 := by
      refine ⟨?_, ?_, ?_, ?_, ?_, ?_⟩
      · rw [hm3, hm2]; exact dkI_P hdP hSh.1
      · rw [hSW.2.2.1, hm3, hm2]
        show 0 = nI (dueB om').toNat
        rw [dueB_P hdP, hdu]; rfl
      · rw [hm3]; exact z2
      · intro _; rw [hm3]; exact z3
      · rw [hm3]; exact hSW.2.2.2.1
      · rw [hm3]; exact hSW.2.2.2.2
    refine ⟨?_, hSh3, hFo', hKn', ?_, ?_, ?_, ?_, ?_⟩
    · rw [hs', hs3, hs2, hm3, hm2]; cases e <;> exact ⟨pd, hk', hr', hcp, rfl, hok, hst, hM, pd1, pd2⟩
    · rw [hs', hs3, hs2, hm3, hm2]; cases e <;> exact hRa
    · rw [hs', hs3, hs2, hm3, hm2]; cases e <;> exact hMa
    · rw [hs', hs3, hs2, hm3, hm2]; cases e <;> exact hFl
    · rw [hs', hs3, hs2, hm3, hm2]; cases e <;> exact hFa
    · rw [hs']; exact ⟨hj, rfl⟩
  · rw [hm3, hs', hs3, hs2, hm2]; cases e <;> exact hps
  · rw [hs', hs3, hs2]; cases e <;> exact ⟨rfl, rfl, rfl, rfl, rfl, hl2⟩
  · rw [hs', hs3, hs2]; cases e <;> exact kfG_refl s
  · rw [hs', hs3, hs2]
    cases e with
    | false =>
      refine ⟨fun _ => ⟨⟨rfl, rfl, rfl, rfl⟩, ?_⟩, fun h => absurd h (by decide)⟩
      rw [hm3, hm2]; exact hSd
    | true =>
      refine ⟨fun h => absurd h (by decide), fun _ => ?_⟩
      have := tk_acts (lv := lv) (s := kPg (kPut s (upd s.g_interpreter_at lv (nI (a + 1))) o' gd') oi2 (pgC d k r cp p1)) (m := m3) l2 (by rw [hm3, hm2]; exact hSd)
      exact this
  · rw [hm3, hm2]; exact rfM_refl m
theorem fin_reset {N d k r cp : Nat} {p : Nat → Nat} {oi : ob_Interpreter} {n st : Int32} (oS : ob_Sheet) (oF : ob_FontShelf) (mk dt ids gl fd_ ch : Nat → Int32) (v : Int32) : finT N oi (pgC d k r cp p) oS oF mk dt ids gl fd_ ch v 2 n st = some (oi, pgC d 1 0 1 zsN, oS, mk, dt) := by
  unfold finT
  rw [if_neg (show ¬ ((2 : Int32) = 1) by decide), if_pos rfl, pg_resetZ]; rfl
theorem zs_stk (g : Nat → Int32) : stk zsN g := fun i hi => by
  have h12 : zsN 12 = 0 := rfl
  rw [h12] at hi; omega
theorem ok_mar {k r : Nat} {p : Nat → Nat} (hp : pOK k r p) : pOK k r (nset (nset p 2 0) 3 (pgW k r)) := by
  obtain ⟨b0, b1, b2, b3, b4, b5, b6, b7, b8, b9, b10, b11, b12, b13⟩ := hp
  exact ⟨b0, b1, by show (0 : Nat) ≤ _; omega, Nat.le_refl _, b4, b5, b6, b7, b8, b9, b10, b11, b12, fun j hj => by rw [nset_ne _ _ (by omega), nset_ne _ _ (by omega)]; exact b13 j hj⟩
theorem dkF_rs (o : ob_mDesk) : dkF o (rsO o) := ⟨rfl, rfl, rfl, rfl, rfl, rfl, rfl, rfl, rfl, rfl, rfl, rfl, rfl, rfl⟩
theorem st_S {N d k r cp T lv a z b i : Nat} {p : Nat → Nat} {s : CS} {m : RS} {lm : Nat → Int32} {own gl : Int32} (hN : 2 ^ 22 < N) (hT : T < 2 ^ 28) (hb : b < 256) (hC : cCo N d k r cp T p s m) (hSd : cSd s m) (hL : lvB lv a z b s) (hpre : mByte N m (nI b) = (mIsSeq N (mAdvd m lm i own)).bind (fun was => (mDesk N (mAdvd m lm i own) (nI b)).bind (fun s2 => mPost N (mAdvd m lm i own) s2 gl was)))
    (ho : oS N b s.o_interpreter_parser s.g_interpreter_parser_data (fs_mDesk_thrown m.o_desk 0) m.g_desk_state m.g_desk_page (upd m.g_desk_steps i own) m.g_desk_glyph m.g_desk_other m.g_desk_store) : bR N d T lv a b s m := by
  obtain ⟨o', t1, t2, t3, t4, t5⟩ := ho
  have hC0 := hC
  obtain ⟨hPg, hSh, hFo, hKn, hRa, hMa, hFl, hFa, hIt⟩ := hC
  obtain ⟨pd, pk, pr, pcp, pp, pok, pst, pdk, pd1, pd2⟩ := hPg
  obtain ⟨P, P1, P2⟩ := dk_pages hSh.1
  obtain ⟨om1, hom1⟩ : ∃ om1, om1 = fs_mDesk_phase (cm0 (fs_mDesk_thrown m.o_desk 0)) 0 := ⟨_, rfl⟩
  rw [← hom1] at t3 t5
  have hQ0 : dkQ m.o_desk om1 := by rw [hom1]; exact dkQ_refl _
  have hP1 : fd_mDesk_pages om1 = nI P := by rw [hom1]; exact P2
  have hcm1 : fd_mDesk_came om1 = 0 := by rw [hom1]; rfl
  have hM0 : dkM k r cp p om1 m.g_desk_state := dkM_Q pdk hQ0
  have hdu1 : dueB om1 = dueB m.o_desk := dueB_P (dkP_Q hQ0)
  have hI1 : dkI T om1 := dkI_P (dkP_Q hQ0) hSh.1
  have q1 := ic_short (N := N) (d := d) (cp := cp) (oi := s.o_interpreter) pk pr pok hb hIt.1 hSh.2.1
  have hkd : ∀ x : ob_Interpreter × ob_Page, ex_Interpreter_doShort N s.o_interpreter (pgC d k r cp p) s.o_sheet (nI b) = some x → ∀ gd9 at9 : Nat → Int32, kDo N (kPut s at9 o' gd9) (if (3 : Int32) &&& 7 = 4 then (fd_Parser_family (kPut s at9 o' gd9).o_interpreter_parser <<< ((8 : Int32) &&& 31)) ||| fd_Parser_group (kPut s at9 o' gd9).o_interpreter_parser else 3 &&& 7) = some (kPg (kPut s at9 o' gd9) x.1 x.2) := fun x hx gd9 at9 => by
    rw [if_neg (show ¬ ((3 : Int32) &&& 7 = 4) by decide), show (3 : Int32) &&& 7 = 3 by decide]
    show kShort N (kPut s at9 o' gd9) (fd_Parser_taken o') = _
    unfold kShort
    refine Option.map_eq_some_iff.mpr ⟨x, ?_, rfl⟩
    rw [t2]
    show ex_Interpreter_doShort N s.o_interpreter s.o_page s.o_sheet (nI b) = _
    rw [pp]; exact hx
  have hen : ∀ om', enB (fs_mDesk_thrown m.o_desk 0) om' = false := fun om' => by
    unfold enB
    rw [decide_eq_false (fun h => h t4)]; rfl
  have onlyP : ∀ (p' : Nat → Nat) (g' : Nat → Int32), ex_Interpreter_doShort N s.o_interpreter (pgC d k r cp p) s.o_sheet (nI b) = some (s.o_interpreter, pgC d k r cp p') → ex_mDesk_shortSequence N om1 m.g_desk_state m.g_desk_page (nI b) = some (om1, g', m.g_desk_page) → dkM k r cp p' om1 g' → pOK k r p' → hiS p p' → bR N d T lv a b s m := fun p' g' h1 h2 h3 h4 h5 => by
    have hu := t5 om1 (dkF.refl _)
    refine bR_of (st_P (e := false) (cp' := cp) (p' := p') (gk := s.g_page_stack) (s2 := kPs (kPut s (upd s.g_interpreter_at lv (nI (a + 1))) o' s.g_interpreter_parser_data) (pgC d k r cp p') s.g_page_stack) hN hC0 hSd hL hpre t1 (by decide) ?_ rfl pcp h4 (stk_S h5 pst) (t3.trans (bind_eq h2)) (dkP_Q hQ0) hcm1 (Or.inl hu.2) h3 hu.1 (hen _))
    exact ka_do (lv := lv) false (by decide) (hkd _ h1 _ _) hL.1 hL.2.1
  by_cases q57 : b = 57
  · rw [if_pos q57] at q1
    obtain ⟨g', c1, c2⟩ := md_short9 (N := N) (gp := m.g_desk_page) hM0
    refine onlyP _ g' q1 (by rw [q57]; exact c1) c2 (ok_mar pok) (hiS_n (hiS_n (hiS_r p) (by omega)) (by omega))
  rw [if_neg q57] at q1
  by_cases q61 : b = 61
  · rw [if_pos q61] at q1
    obtain ⟨g', gp', c1, c2, c3⟩ := md_shortLF (N := N) (gp := m.g_desk_page) pk pok (by omega) hP1 hM0
    cases hE : lfE k r p (p 7 / 2) with
    | false =>
      rw [hE] at q1 c1
      obtain ⟨c4, c5⟩ := c3 hE
      subst c5
      exact onlyP _ g' q1 (by rw [q61]; exact c1) c4 (lf_ok pok hE) (hiS_n (hiS_r p) (by omega))
    | true =>
      rw [hE] at q1 c1
      obtain ⟨c4, c5⟩ := c2 hE
      have hu := t5 (ejO om1) (ejO_F _)
      obtain ⟨oi2, hoi2⟩ : ∃ oi2, oi2 = fs_Interpreter_ejecting s.o_interpreter 1 := ⟨_, rfl⟩
      rw [if_pos rfl, ← hoi2] at q1
      have e1 : ¬ fd_Interpreter_ejecting oi2 = 0 := by rw [hoi2]; show ¬ ((1 : Int32) = 0); decide
      have e2 : fd_Interpreter_level oi2 = fd_Interpreter_level s.o_interpreter := by rw [hoi2]
      have e3 : fd_Interpreter_then oi2 = 0 := by rw [hoi2]; exact hIt.2
      have ha := ka_do (lv := lv) (N := N) false (by decide) (hkd _ q1 s.g_interpreter_parser_data (upd s.g_interpreter_at lv (nI (a + 1)))) (e2.trans hL.1) hL.2.1
      have hc9 : ex_mDesk_shortSequence N om1 m.g_desk_state m.g_desk_page (nI b) = some (ejO om1, g', gp') := by rw [q61]; exact c1
      have hcm9 : fd_mDesk_came (ejO om1) = 0 := hcm1
      have hpp9 : fd_mDesk_pages (ejO om1) = nI (P + 1) := by show fd_mDesk_pages om1 + 1 = _; rw [hP1, nI_1]
      have hIe : dkI (T + 4) (ejO om1) := (ejO_I hI1).mono (by omega)
      exact st_E (e := false) (oi2 := oi2) (P := P) (cp' := cp) (p1 := p) (p' := homN k r p) hN hC0 hSd hL hpre t1 (by decide) ha rfl e1 e2 pok.2.2.2.2.1 pok.2.2.2.2.2.2.2.1 (fun oS oF mk dt ids gl fd_ ch v => by rw [e3]; rfl) pk pr pcp (hom_ok pok) (stk_S (hiS_n (hiS_r p) (by omega)) pst) (t3.trans (bind_eq hc9)) (by omega) P2 hpp9 (by omega) c5 hIe (ejO_due _) hcm9 hu.2 c4 hu.1 (hen _)
  rw [if_neg q61] at q1
  by_cases q69 : b = 69
  · rw [if_pos q69] at q1
    obtain ⟨g', gp', c1, c2, c3, c4⟩ := md_shortE (N := N) (gp := m.g_desk_page) (by omega) pk pok (by omega) hP1 hM0
    cases hD : dueB m.o_desk with
    | false =>
      rw [hD] at q1
      rw [hdu1, hD] at c1 c2
      have hu := t5 (rsO om1) (dkF_rs _)
      obtain ⟨oi2, hoi2⟩ : ∃ oi2, oi2 = fs_Interpreter_thenNumber (fs_Interpreter_then (fs_Interpreter_ejecting s.o_interpreter (nI false.toNat)) 2) 0 := ⟨_, rfl⟩
      rw [← hoi2] at q1
      have e1 : fd_Interpreter_ejecting oi2 = 0 := by rw [hoi2]; rfl
      have e2 : fd_Interpreter_level oi2 = fd_Interpreter_level s.o_interpreter := by rw [hoi2]
      have e3 : fd_Interpreter_then oi2 = 2 := by rw [hoi2]
      have ha := ka_do (lv := lv) (N := N) false (by decide) (hkd _ q1 s.g_interpreter_parser_data (upd s.g_interpreter_at lv (nI (a + 1)))) (e2.trans hL.1) hL.2.1
      have hdP : dkP m.o_desk (rsO om1) := by rw [hom1]; exact ⟨rfl, rfl, rfl, rfl⟩
      have hc9 : ex_mDesk_shortSequence N om1 m.g_desk_state m.g_desk_page (nI b) = some (rsO om1, g', gp') := by rw [q69]; exact c1
      have hcm9 : fd_mDesk_came (rsO om1) = 0 := hcm1
      exact bR_of (st_R (e := false) (oi2 := oi2) (p1 := p) (k' := 1) (r' := 0) (cp' := 1) (p' := zsN) hN hC0 hSd hL hpre t1 (by decide) ha rfl e1 e2 (fun oS oF mk dt ids gl fd_ ch v => by rw [e3]; exact fin_reset oS oF mk dt ids gl fd_ ch v) (by omega) (by omega) ⟨by omega, by omega⟩ zs_ok (zs_stk _) (t3.trans (bind_eq hc9)) hdP hD hcm9 hu.2 c2 hu.1 (hen _))
    | true =>
      rw [hD] at q1
      rw [hdu1, hD] at c1 c2
      have c5 := c3 (by rw [hdu1]; exact hD)
      have hu := t5 (rsO (ejO om1)) ((ejO_F _).trans (dkF_rs _))
      have hIe : dkI (T + 4) (rsO (ejO om1)) := dkI_P (a := ejO om1) ⟨rfl, rfl, rfl, rfl⟩ ((ejO_I hI1).mono (by omega))
      obtain ⟨oi2, hoi2⟩ : ∃ oi2, oi2 = fs_Interpreter_thenNumber (fs_Interpreter_then (fs_Interpreter_ejecting s.o_interpreter (nI true.toNat)) 2) 0 := ⟨_, rfl⟩
      rw [← hoi2] at q1
      have e1 : ¬ fd_Interpreter_ejecting oi2 = 0 := by rw [hoi2]; show ¬ ((1 : Int32) = 0); decide
      have e2 : fd_Interpreter_level oi2 = fd_Interpreter_level s.o_interpreter := by rw [hoi2]
      have e3 : fd_Interpreter_then oi2 = 2 := by rw [hoi2]
      have ha := ka_do (lv := lv) (N := N) false (by decide) (hkd _ q1 s.g_interpreter_parser_data (upd s.g_interpreter_at lv (nI (a + 1)))) (e2.trans hL.1) hL.2.1
      have hc9 : ex_mDesk_shortSequence N om1 m.g_desk_state m.g_desk_page (nI b) = some (rsO (ejO om1), g', gp') := by rw [q69]; exact c1
      have hcm9 : fd_mDesk_came (rsO (ejO om1)) = 0 := hcm1
      have hpp9 : fd_mDesk_pages (rsO (ejO om1)) = nI (P + 1) := by show fd_mDesk_pages om1 + 1 = _; rw [hP1, nI_1]
      have hdu9 : dueB (rsO (ejO om1)) = false := rfl
      exact st_E (e := false) (oi2 := oi2) (P := P) (k' := 1) (r' := 0) (cp' := 1) (p1 := p) (p' := zsN) hN hC0 hSd hL hpre t1 (by decide) ha rfl e1 e2 pok.2.2.2.2.1 pok.2.2.2.2.2.2.2.1 (fun oS oF mk dt ids gl fd_ ch v => by rw [e3]; exact fin_reset oS oF mk dt ids gl fd_ ch v) (by omega) (by omega) ⟨by omega, by omega⟩ zs_ok (zs_stk _) (t3.trans (bind_eq hc9)) (by omega) P2 hpp9 (by omega) c5 hIe hdu9 hcm9 hu.2 c2 hu.1 (hen _)
  rw [if_neg q69] at q1
  exact onlyP p m.g_desk_state q1 (md_shortN hb q69 q57 q61) hM0 pok (hiS_r p)
theorem ok_in {k r : Nat} {p q : Nat → Nat} (hp : pOK k r p) (h0 : q 0 ≤ pgW k r) (h1 : q 1 ≤ pgH k r) (h2 : q 2 ≤ 122400) (h3 : q 3 ≤ pgW k r) (h4 : q 4 ≤ 122400) (h5 : q 5 ≤ 122400) (h6 : q 6 ≤ 1966080) (h7 : q 7 ≤ 122400) (h8 : q 8 ≤ 1) (h9 : q 9 ≤ 1) (h10 : q 10 ≤ 3) (h11 : q 11 ≤ 1) (hs : hiS p q) : pOK k r q := by
  obtain ⟨b0, b1, b2, b3, b4, b5, b6, b7, b8, b9, b10, b11, b12, b13⟩ := hp
  exact ⟨h0, h1, h2, h3, h4, h5, h6, h7, h8, h9, h10, h11, by rw [hs 12 (by omega)]; exact b12, fun i hi => by rw [hs (13 + i) (by omega)]; exact b13 i hi⟩
theorem left_ok {k r n : Nat} {p : Nat → Nat} (hk : k < 5) (hp : pOK k r p) : pOK k r (leftN p n) ∧ hiS p (leftN p n) := by
  have h0 := hp
  obtain ⟨b0, b1, b2, b3, b4, b5, b6, b7, b8, b9, b10, b11, b12, b13⟩ := h0
  have hw := pgW_le (r := r) hk
  unfold leftN
  split
  · rename_i h
    have hs : hiS p (nset (nset p 2 (n * p 6)) 0 (max (p 0) (n * p 6))) := hiS_n (hiS_n (hiS_r p) (by omega)) (by omega)
    exact ⟨ok_in hp (by show max (p 0) (n * p 6) ≤ _; omega) b1 (by show n * p 6 ≤ _; omega) b3 b4 b5 b6 b7 b8 b9 b10 b11 hs, hs⟩
  · exact ⟨hp, hiS_r p⟩
theorem right_ok {k r n : Nat} {p : Nat → Nat} (hp : pOK k r p) : pOK k r (rightN k r p n) ∧ hiS p (rightN k r p n) := by
  have h0 := hp
  obtain ⟨b0, b1, b2, b3, b4, b5, b6, b7, b8, b9, b10, b11, b12, b13⟩ := h0
  unfold rightN
  split
  · have hs : hiS p (nset (nset p 3 (min (pgW k r) ((n + 1) * p 6))) 0 (min (p 0) (min (pgW k r) ((n + 1) * p 6)))) := hiS_n (hiS_n (hiS_r p) (by omega)) (by omega)
    exact ⟨ok_in hp (by show min (p 0) (min (pgW k r) ((n + 1) * p 6)) ≤ _; omega) b1 b2 (by show min (pgW k r) ((n + 1) * p 6) ≤ _; omega) b4 b5 b6 b7 b8 b9 b10 b11 hs, hs⟩
  · exact ⟨hp, hiS_r p⟩
theorem step_ok {k r z : Nat} {p : Nat → Nat} (hk : k < 5) (hp : pOK k r p) : pOK k r (stepN k r p z) ∧ hiS p (stepN k r p z) := by
  have hh := pgH_le (r := r) hk
  unfold stepN
  split
  · exact ⟨ok_hi hp (Or.inr (Or.inr (Or.inr (Or.inr (Or.inr ⟨rfl, by omega⟩))))), hiS_n (hiS_r p) (by omega)⟩
  · exact ⟨hp, hiS_r p⟩
theorem inch_ok {k r n : Nat} {p : Nat → Nat} (hp : pOK k r p) : pOK k r (inchN p n) ∧ hiS p (inchN p n) := by
  unfold inchN
  split
  · exact ⟨ok_hi hp (Or.inr (Or.inr (Or.inr (Or.inr (Or.inr ⟨rfl, Nat.le_trans (Nat.div_le_self _ _) (by omega)⟩))))), hiS_n (hiS_r p) (by omega)⟩
  · exact ⟨hp, hiS_r p⟩
theorem top_ok {k r n : Nat} {p : Nat → Nat} (hk : k < 5) (hp : pOK k r p) : pOK k r (topN k r p n) ∧ hiS p (topN k r p n) := by
  have h0 := hp
  obtain ⟨b0, b1, b2, b3, b4, b5, b6, b7, b8, b9, b10, b11, b12, b13⟩ := h0
  have hh := pgH_le (r := r) hk
  unfold topN
  split
  · have hs : hiS p (nset (nset p 4 (n * p 7)) 5 (pgH k r - n * p 7 - 3600)) := hiS_n (hiS_n (hiS_r p) (by omega)) (by omega)
    exact ⟨ok_in hp b0 b1 b2 b3 (by show n * p 7 ≤ _; omega) (by show pgH k r - n * p 7 - 3600 ≤ _; omega) b6 b7 b8 b9 b10 b11 hs, hs⟩
  · exact ⟨hp, hiS_r p⟩
theorem len_ok {k r n : Nat} {p : Nat → Nat} (hk : k < 5) (hp : pOK k r p) : pOK k r (lenN k r p n) ∧ hiS p (lenN k r p n) := by
  have h0 := hp
  obtain ⟨b0, b1, b2, b3, b4, b5, b6, b7, b8, b9, b10, b11, b12, b13⟩ := h0
  have hh := pgH_le (r := r) hk
  unfold lenN
  split
  · have hs : hiS p (nset p 5 (n * p 7)) := hiS_n (hiS_r p) (by omega)
    exact ⟨ok_in hp b0 b1 b2 b3 b4 (by show n * p 7 ≤ _; omega) b6 b7 b8 b9 b10 b11 hs, hs⟩
  · exact ⟨hp, hiS_r p⟩
theorem push_ok {k r : Nat} {p : Nat → Nat} (hk : k < 5) (hp : pOK k r p) : pOK k r (pushN p) := by
  have h0 := hp
  obtain ⟨b0, b1, b2, b3, b4, b5, b6, b7, b8, b9, b10, b11, b12, b13⟩ := h0
  have hw := pgW_le (r := r) hk
  have hh := pgH_le (r := r) hk
  unfold pushN
  split
  · have e : ∀ i, i < 12 → nset (nset (nset p (13 + 2 * p 12) (p 0)) (14 + 2 * p 12) (p 1)) 12 (p 12 + 1) i = p i := fun i hi => by rw [nset_ne _ _ (by omega), nset_ne _ _ (by omega), nset_ne _ _ (by omega)]
    refine ⟨by rw [e 0 (by omega)]; exact b0, by rw [e 1 (by omega)]; exact b1, by rw [e 2 (by omega)]; exact b2, by rw [e 3 (by omega)]; exact b3, by rw [e 4 (by omega)]; exact b4, by rw [e 5 (by omega)]; exact b5, by rw [e 6 (by omega)]; exact b6, by rw [e 7 (by omega)]; exact b7, by rw [e 8 (by omega)]; exact b8, by rw [e 9 (by omega)]; exact b9, by rw [e 10 (by omega)]; exact b10, by rw [e 11 (by omega)]; exact b11, by rw [nset_eq]; omega, fun i hi => ?_⟩
    rw [nset_ne _ _ (by omega)]
    by_cases q1 : 13 + i = 14 + 2 * p 12
    · rw [q1, nset_eq]; omega
    · rw [nset_ne _ _ q1]
      by_cases q2 : 13 + i = 13 + 2 * p 12
      · rw [q2, nset_eq]; omega
      · rw [nset_ne _ _ q2]; exact b13 i hi
  · exact hp
theorem pop_ok {k r : Nat} {p : Nat → Nat} (hp : pOK k r p) : pOK k r (popN k r p) := by
  have h0 := hp
  obtain ⟨b0, b1, b2, b3, b4, b5, b6, b7, b8, b9, b10, b11, b12, b13⟩ := h0
  unfold popN
  split
  · refine ⟨Nat.min_le_right _ _, Nat.min_le_right _ _, b2, b3, b4, b5, b6, b7, b8, b9, b10, b11, by show p 12 - 1 ≤ 20; omega, fun i hi => ?_⟩
    rw [nset_ne _ _ (by omega), nset_ne _ _ (by omega), nset_ne _ _ (by omega)]; exact b13 i hi
  · exact hp
theorem df_ok {k r k0 r0 : Nat} {p : Nat → Nat} (hk : k < 5) (hp : pOK k0 r0 p) : pOK k r (dfN k r p) ∧ hiS p (dfN k r p) := by
  obtain ⟨b0, b1, b2, b3, b4, b5, b6, b7, b8, b9, b10, b11, b12, b13⟩ := hp
  have hh := pgH_le (r := r) hk
  have hs : hiS p (dfN k r p) := hiS_n (hiS_n (hiS_n (hiS_n (hiS_n (hiS_n (hiS_r p) (by omega)) (by omega)) (by omega)) (by omega)) (by omega)) (by omega)
  have e0 : dfN k r p 0 = 0 := rfl
  have e1 : dfN k r p 1 = min (3600 + p 7 * 3 / 4) (pgH k r) := nset_eq _ _ _
  have e2 : dfN k r p 2 = 0 := rfl
  have e3 : dfN k r p 3 = pgW k r := rfl
  have e4 : dfN k r p 4 = 3600 := rfl
  have e5 : dfN k r p 5 = pgH k r - 7200 := by unfold dfN; rw [nset_ne _ _ (by decide), nset_ne _ _ (by decide), nset_ne _ _ (by decide), nset_ne _ _ (by decide), nset_eq]
  refine ⟨⟨by rw [e0]; exact Nat.zero_le _, by rw [e1]; exact Nat.min_le_right _ _, by rw [e2]; exact Nat.zero_le _, by rw [e3]; exact Nat.le_refl _, by rw [e4]; omega, by rw [e5]; omega, b6, b7, b8, b9, b10, b11, by rw [hs 12 (by omega)]; exact b12, fun i hi => by rw [hs (13 + i) (by omega)]; exact b13 i hi⟩, hs⟩
/-- what a command leaves of a page is a page -/
theorem cmd_ok {f gr e k r n : Nat} {v : Int} {sg : Bool} {p : Nat → Nat} (hk : k < 5) (hp : pOK k r p) (hv : v ≤ 327679999) : pOK k r (cmdN f gr e k r p n v sg) ∧ (¬ (f = 38 ∧ gr = 102) → hiS p (cmdN f gr e k r p n v sg)) := by
  have cX : ∀ z, pOK k r (nset p 0 (clampN z (pgW k r))) ∧ hiS p (nset p 0 (clampN z (pgW k r))) := fun z => ⟨ok_X hp (clamp_le _ _), hiS_n (hiS_r p) (by omega)⟩
  have cY : ∀ z, pOK k r (nset p 1 (clampN z (pgH k r))) ∧ hiS p (nset p 1 (clampN z (pgH k r))) := fun z => ⟨ok_Y hp (clamp_le _ _), hiS_n (hiS_r p) (by omega)⟩
  have same : pOK k r p ∧ (¬ (f = 38 ∧ gr = 102) → hiS p p) := ⟨hp, fun _ => hiS_r p⟩
  have lift : ∀ {q : Nat → Nat}, pOK k r q ∧ hiS p q → pOK k r q ∧ (¬ (f = 38 ∧ gr = 102) → hiS p q) := fun h => ⟨h.1, fun _ => h.2⟩
  unfold cmdN
  by_cases a1 : f = 38 ∧ gr = 108
  · rw [if_pos a1]
    by_cases e1 : e = 67
    · rw [if_pos e1]; exact lift (step_ok hk hp)
    rw [if_neg e1]
    by_cases e2 : e = 68
    · rw [if_pos e2]; exact lift (inch_ok hp)
    rw [if_neg e2]
    by_cases e3 : e = 69
    · rw [if_pos e3]; exact lift (top_ok hk hp)
    rw [if_neg e3]
    by_cases e4 : e = 70
    · rw [if_pos e4]; exact lift (len_ok hk hp)
    rw [if_neg e4]
    by_cases e5 : e = 76
    · rw [if_pos e5]
      by_cases e6 : n < 2
      · rw [if_pos e6]; exact lift ⟨ok_hi hp (Or.inr (Or.inr (Or.inl ⟨rfl, by omega⟩))), hiS_n (hiS_r p) (by omega)⟩
      · rw [if_neg e6]; exact same
    · rw [if_neg e5]; exact same
  rw [if_neg a1]
  by_cases a2 : f = 38 ∧ gr = 107
  · rw [if_pos a2]
    by_cases e1 : e = 72
    · rw [if_pos e1]; exact lift ⟨ok_hi hp (Or.inr (Or.inr (Or.inr (Or.inr (Or.inl ⟨rfl, by omega⟩))))), hiS_n (hiS_r p) (by omega)⟩
    rw [if_neg e1]
    by_cases e2 : e = 71
    · rw [if_pos e2]
      by_cases e6 : n < 4
      · rw [if_pos e6]; exact lift ⟨ok_hi hp (Or.inr (Or.inr (Or.inr (Or.inl ⟨rfl, by omega⟩)))), hiS_n (hiS_r p) (by omega)⟩
      · rw [if_neg e6]; exact same
    · rw [if_neg e2]; exact same
  rw [if_neg a2]
  by_cases a3 : f = 38 ∧ gr = 97
  · rw [if_pos a3]
    by_cases e1 : e = 76
    · rw [if_pos e1]; exact lift (left_ok hk hp)
    rw [if_neg e1]
    by_cases e2 : e = 77
    · rw [if_pos e2]; exact lift (right_ok hp)
    rw [if_neg e2]
    by_cases e3 : e = 67
    · rw [if_pos e3]; exact lift (cX _)
    rw [if_neg e3]
    by_cases e4 : e = 72
    · rw [if_pos e4]; exact lift (cX _)
    rw [if_neg e4]
    by_cases e5 : e = 82
    · rw [if_pos e5]; exact lift (cY _)
    rw [if_neg e5]
    by_cases e6 : e = 86
    · rw [if_pos e6]; exact lift (cY _)
    rw [if_neg e6]; exact same
  rw [if_neg a3]
  by_cases a4 : f = 38 ∧ gr = 115
  · rw [if_pos a4]
    by_cases e1 : e = 67
    · rw [if_pos e1]
      by_cases n0 : n = 0
      · rw [if_pos n0]; exact lift ⟨ok_hi hp (Or.inr (Or.inl ⟨rfl, by omega⟩)), hiS_n (hiS_r p) (by omega)⟩
      rw [if_neg n0]
      by_cases n1 : n = 1
      · rw [if_pos n1]; exact lift ⟨ok_hi hp (Or.inr (Or.inl ⟨rfl, by omega⟩)), hiS_n (hiS_r p) (by omega)⟩
      rw [if_neg n1]; exact same
    · rw [if_neg e1]; exact same
  rw [if_neg a4]
  by_cases a5 : f = 38 ∧ gr = 102
  · rw [if_pos a5]
    have no : ∀ q : Nat → Nat, pOK k r q → pOK k r q ∧ (¬ (f = 38 ∧ gr = 102) → hiS p q) := fun q hq => ⟨hq, fun h => absurd a5 h⟩
    by_cases e1 : e = 83
    · rw [if_pos e1]
      by_cases n0 : n = 0
      · rw [if_pos n0]; exact no _ (push_ok hk hp)
      rw [if_neg n0]
      by_cases n1 : n = 1
      · rw [if_pos n1]; exact no _ (pop_ok hp)
      rw [if_neg n1]; exact same
    · rw [if_neg e1]; exact same
  rw [if_neg a5]
  by_cases a6 : f = 42 ∧ gr = 112
  · rw [if_pos a6]
    by_cases e1 : e = 88
    · rw [if_pos e1]; exact lift (cX _)
    rw [if_neg e1]
    by_cases e2 : e = 89
    · rw [if_pos e2]; exact lift (cY _)
    rw [if_neg e2]; exact same
  rw [if_neg a6]; exact same
theorem key_eq {f gr : Nat} (hf : f < 256) (hg : gr < 256) : (nI f <<< ((8 : Int32) &&& 31)) ||| nI gr = nI (256 * f + gr) := by
  have h1 : nI f <<< ((8 : Int32) &&& 31) = nI (f * 2 ^ 8) := nI_shl (k := 8) (by omega) (by omega)
  rw [h1, nI_or (by omega) (by omega), Nat.or_comm, or_hi 8 (by omega)]
  congr 1; omega
theorem kd_9825 {N : Nat} {s : CS} : kDo N s (nI 9825) = (ex_Parser_number N s.o_interpreter_parser).bind (fun n => kPlace N s (fd_Parser_end s.o_interpreter_parser) n) := rfl
theorem kd_9830 {N : Nat} {s : CS} : kDo N s (nI 9830) = (ex_Parser_number N s.o_interpreter_parser).bind (fun n => kStack N s (fd_Parser_end s.o_interpreter_parser) n) := rfl
theorem kd_9835 {N : Nat} {s : CS} : kDo N s (nI 9835) = (ex_Parser_number N s.o_interpreter_parser).bind (fun n => (ex_Parser_amount N s.o_interpreter_parser).bind (fun a => kText N s (fd_Parser_end s.o_interpreter_parser) n a)) := rfl
theorem kd_9836 {N : Nat} {s : CS} : kDo N s (nI 9836) = (ex_Parser_number N s.o_interpreter_parser).bind (fun n => (ex_Parser_amount N s.o_interpreter_parser).bind (fun a => kLayout N s (fd_Parser_end s.o_interpreter_parser) n a)) := rfl
theorem kd_9843 {N : Nat} {s : CS} : kDo N s (nI 9843) = (ex_Parser_number N s.o_interpreter_parser).bind (fun n => kWrap N s (fd_Parser_end s.o_interpreter_parser) n) := rfl
theorem kd_10240 {N : Nat} {s : CS} : kDo N s (nI 10240) = (ex_Parser_number N s.o_interpreter_parser).bind (fun n => kSet N s 0 (fd_Parser_end s.o_interpreter_parser) n) := rfl
theorem kd_10355 {N : Nat} {s : CS} : kDo N s (nI 10355) = (ex_Parser_number N s.o_interpreter_parser).bind (fun n => (ex_Parser_amount N s.o_interpreter_parser).bind (fun a => kWish N s 0 (fd_Parser_end s.o_interpreter_parser) n a)) := rfl
theorem kd_10496 {N : Nat} {s : CS} : kDo N s (nI 10496) = (ex_Parser_number N s.o_interpreter_parser).bind (fun n => kSet N s 1 (fd_Parser_end s.o_interpreter_parser) n) := rfl
theorem kd_10611 {N : Nat} {s : CS} : kDo N s (nI 10611) = (ex_Parser_number N s.o_interpreter_parser).bind (fun n => (ex_Parser_amount N s.o_interpreter_parser).bind (fun a => kWish N s 1 (fd_Parser_end s.o_interpreter_parser) n a)) := rfl
theorem kd_10850 {N : Nat} {s : CS} : kDo N s (nI 10850) = (ex_Parser_number N s.o_interpreter_parser).bind (fun n => kRow N s (fd_Parser_end s.o_interpreter_parser) n) := rfl
theorem kd_10851 {N : Nat} {s : CS} : kDo N s (nI 10851) = (ex_Parser_number N s.o_interpreter_parser).bind (fun n => (ex_Parser_amount N s.o_interpreter_parser).bind (fun a => kRules N s (fd_Parser_end s.o_interpreter_parser) n a)) := rfl
theorem kd_10864 {N : Nat} {s : CS} : kDo N s (nI 10864) = kDotP N s (fd_Parser_end s.o_interpreter_parser) := rfl
theorem kd_10866 {N : Nat} {s : CS} : kDo N s (nI 10866) = (ex_Parser_number N s.o_interpreter_parser).bind (fun n => kRaster N s (fd_Parser_end s.o_interpreter_parser) n) := rfl
theorem kd_10868 {N : Nat} {s : CS} : kDo N s (nI 10868) = (ex_Parser_number N s.o_interpreter_parser).bind (fun n => kReso N s (fd_Parser_end s.o_interpreter_parser) n) := rfl
theorem kd_10870 {N : Nat} {s : CS} : kDo N s (nI 10870) = (ex_Parser_number N s.o_interpreter_parser).bind (fun n => kInk N s (fd_Parser_end s.o_interpreter_parser) n) := rfl
theorem kd_no {N K : Nat} {s : CS} (hK : K < 65536) (h : ¬ (K = 1 ∨ K = 2 ∨ K = 3 ∨ K = 9825 ∨ K = 9830 ∨ K = 9835 ∨ K = 9836 ∨ K = 9843 ∨ K = 10240 ∨ K = 10355 ∨ K = 10496 ∨ K = 10611 ∨ K = 10850 ∨ K = 10851 ∨ K = 10864 ∨ K = 10866 ∨ K = 10868 ∨ K = 10870)) : kDo N s (nI K) = some s := by
  have ne : ∀ j : Nat, j < 65536 → K ≠ j → ¬ nI K = nI j := fun j hj hne => mt (nI_eq (by omega) (by omega)).mp hne
  unfold kDo
  rw [if_neg (show ¬ nI K = 1 from ne 1 (by omega) (by omega)), if_neg (show ¬ nI K = 2 from ne 2 (by omega) (by omega)), if_neg (show ¬ nI K = 3 from ne 3 (by omega) (by omega)), if_neg (show ¬ nI K = 9825 from ne 9825 (by omega) (by omega)), if_neg (show ¬ nI K = 9830 from ne 9830 (by omega) (by omega)), if_neg (show ¬ nI K = 9835 from ne 9835 (by omega) (by omega)), if_neg (show ¬ nI K = 9836 from ne 9836 (by omega) (by omega)), if_neg (show ¬ nI K = 9843 from ne 9843 (by omega) (by omega)), if_neg (show ¬ nI K = 10240 from ne 10240 (by omega) (by omega)), if_neg (show ¬ nI K = 10355 from ne 10355 (by omega) (by omega)), if_neg (show ¬ nI K = 10496 from ne 10496 (by omega) (by omega)), if_neg (show ¬ nI K = 10611 from ne 10611 (by omega) (by omega)), if_neg (show ¬ nI K = 10850 from ne 10850 (by omega) (by omega)), if_neg (show ¬ nI K = 10851 from ne 10851 (by omega) (by omega)), if_neg (show ¬ nI K = 10864 from ne 10864 (by omega) (by omega)), if_neg (show ¬ nI K = 10866 from ne 10866 (by omega) (by omega)), if_neg (show ¬ nI K = 10868 from ne 10868 (by omega) (by omega)), if_neg (show ¬ nI K = 10870 from ne 10870 (by omega) (by omega))]
theorem kPs_same (s : CS) : kPs s s.o_page s.g_page_stack = s := rfl
/-- the class's side of a command that the desk knows -/
theorem kd_page {N d k r cp f gr e : Nat} {v : Int} {sg : Bool} {p : Nat → Nat} {s : CS} (hk : k < 5) (hr : r < 4) (hp : pOK k r p) (hst : stk p s.g_page_stack) (hpg : s.o_page = pgC d k r cp p) (he : e < 256) (hv : -327679999 ≤ v ∧ v ≤ 327679999) (c1 : fd_Parser_end s.o_interpreter_parser = nI e) (c2 : fd_Parser_value s.o_interpreter_parser = iI v) (c3 : fd_Parser_signed s.o_interpreter_parser = nI sg.toNat) (hkn : knB f gr e = true) (hno : ¬ (f = 38 ∧ gr = 108 ∧ (e = 65 ∨ e = 79 ∨ e = 88))) :
    ∃ gk, kDo N s (nI (256 * f + gr)) = some (kPs s (pgC d k r cp (cmdN f gr e k r p (v.toNat / 10000) v sg)) gk) ∧ stk (cmdN f gr e k r p (v.toNat / 10000) v sg) gk := by
  obtain ⟨n1, n2⟩ := ps_num (N := N) c2 hv
  have hn : v.toNat / 10000 ≤ 32767 := by omega
  have hhi := (cmd_ok (f := f) (gr := gr) (e := e) (n := v.toNat / 10000) (sg := sg) (v := v) hk hp hv.2).2
  unfold knB at hkn
  by_cases a1 : f = 38 ∧ gr = 108
  · obtain ⟨rfl, rfl⟩ := a1
    have hl := ic_layout (N := N) (d := d) (cp := cp) (oi := s.o_interpreter) (oS := s.o_sheet) (sg := sg) (v := v) hk hr hp he hn hv.2 (fun h => hno ⟨rfl, rfl, Or.inl h⟩) (fun h => hno ⟨rfl, rfl, Or.inr (Or.inl h)⟩)
    rw [if_neg (show ¬ e = 88 from fun h => hno ⟨rfl, rfl, Or.inr (Or.inr h)⟩)] at hl
    refine ⟨s.g_page_stack, ?_, stk_S (hhi (by omega)) hst⟩
    show kDo N s (nI 9836) = _
    rw [kd_9836, n1]
    refine (bind_eq rfl).trans ?_
    rw [n2]
    refine (bind_eq rfl).trans ?_
    rw [c1]
    unfold kLayout
    refine Option.map_eq_some_iff.mpr ⟨(s.o_interpreter, pgC d k r cp (cmdN 38 108 e k r p (v.toNat / 10000) v sg)), ?_, rfl⟩
    rw [hpg]; exact hl
  rw [if_neg a1] at hkn
  by_cases a2 : f = 38 ∧ gr = 107
  · obtain ⟨rfl, rfl⟩ := a2
    have hl := ic_text (N := N) (d := d) (k := k) (r := r) (cp := cp) (p := p) (oi := s.o_interpreter) (sg := sg) (v := v) he hn hv.2
    refine ⟨s.g_page_stack, ?_, stk_S (hhi (by omega)) hst⟩
    show kDo N s (nI 9835) = _
    rw [kd_9835, n1]
    refine (bind_eq rfl).trans ?_
    rw [n2]
    refine (bind_eq rfl).trans ?_
    rw [c1]
    unfold kText
    refine Option.map_eq_some_iff.mpr ⟨_, ?_, rfl⟩
    rw [hpg]; exact hl
  rw [if_neg a2] at hkn
  by_cases a3 : f = 38 ∧ gr = 97
  · obtain ⟨rfl, rfl⟩ := a3
    have hl := ic_place (N := N) (d := d) (cp := cp) (oi := s.o_interpreter) hk hr hp he hn hv c2 c3
    refine ⟨s.g_page_stack, ?_, stk_S (hhi (by omega)) hst⟩
    show kDo N s (nI 9825) = _
    rw [kd_9825, n1]
    refine (bind_eq rfl).trans ?_
    rw [c1]
    unfold kPlace
    refine Option.map_eq_some_iff.mpr ⟨_, ?_, rfl⟩
    rw [hpg]; exact hl
  rw [if_neg a3] at hkn
  by_cases a4 : f = 38 ∧ gr = 115
  · obtain ⟨rfl, rfl⟩ := a4
    have hl := ic_wrap (N := N) (d := d) (k := k) (r := r) (cp := cp) (p := p) (oi := s.o_interpreter) (sg := sg) (v := v) hp.2.2.2.2.2.2.2.2.1 he hn
    refine ⟨s.g_page_stack, ?_, stk_S (hhi (by omega)) hst⟩
    show kDo N s (nI 9843) = _
    rw [kd_9843, n1]
    refine (bind_eq rfl).trans ?_
    rw [c1]
    unfold kWrap
    refine Option.map_eq_some_iff.mpr ⟨_, ?_, rfl⟩
    rw [hpg]; exact hl
  rw [if_neg a4] at hkn
  by_cases a5 : f = 38 ∧ gr = 102
  · obtain ⟨rfl, rfl⟩ := a5
    rw [if_pos ⟨rfl, rfl⟩] at hkn
    have he83 : e = 83 := by simpa using hkn
    subst he83
    have h12 := hp.2.2.2.2.2.2.2.2.2.2.2.2.1
    have h13 := hp.2.2.2.2.2.2.2.2.2.2.2.2.2
    have hcm : cmdN 38 102 83 k r p (v.toNat / 10000) v sg = if v.toNat / 10000 = 0 then pushN p else if v.toNat / 10000 = 1 then popN k r p else p := rfl
    have hgo : kDo N s (nI 9830) = kStack N s (nI 83) (nI (v.toNat / 10000)) := by
      rw [kd_9830, n1]
      refine (bind_eq rfl).trans ?_
      rw [c1]
    show ∃ gk, kDo N s (nI 9830) = _ ∧ _
    rw [hgo, hcm]
    unfold kStack
    by_cases q0 : v.toNat / 10000 = 0
    · rw [if_pos q0]
      obtain ⟨g', e1, e2⟩ := pg_push (N := N) (d := d) (k := k) (r := r) (cp := cp) h12 hst
      refine ⟨g', Option.map_eq_some_iff.mpr ⟨(s.o_macros, s.g_macros_saidActs, s.g_macros_saidIds, pgC d k r cp (pushN p), g'), ?_, rfl⟩, e2⟩
      unfold ex_Interpreter_doStackAndMacros
      rw [if_pos (show nI 83 = 83 from rfl), if_pos (show nI (v.toNat / 10000) = 0 by rw [q0]; rfl), hpg, e1]; rfl
    · rw [if_neg q0]
      have z0 : ¬ nI (v.toNat / 10000) = 0 := mt (nI_eq (b := 0) (by omega) (by omega)).mp q0
      by_cases q1 : v.toNat / 10000 = 1
      · rw [if_pos q1]
        obtain ⟨e1, e2⟩ := pg_pop (N := N) (d := d) (cp := cp) hk hr h12 h13 hst
        refine ⟨s.g_page_stack, Option.map_eq_some_iff.mpr ⟨(s.o_macros, s.g_macros_saidActs, s.g_macros_saidIds, pgC d k r cp (popN k r p), s.g_page_stack), ?_, rfl⟩, e2⟩
        unfold ex_Interpreter_doStackAndMacros
        rw [if_pos (show nI 83 = 83 from rfl), if_neg z0, if_pos (show nI 83 = 83 from rfl), if_pos (show nI (v.toNat / 10000) = 1 by rw [q1]; rfl), hpg, e1]; rfl
      · rw [if_neg q1]
        refine ⟨s.g_page_stack, Option.map_eq_some_iff.mpr ⟨(s.o_macros, s.g_macros_saidActs, s.g_macros_saidIds, pgC d k r cp p, s.g_page_stack), ?_, rfl⟩, hst⟩
        unfold ex_Interpreter_doStackAndMacros
        rw [if_pos (show nI 83 = 83 from rfl), if_neg z0, if_pos (show nI 83 = 83 from rfl), if_neg (show ¬ nI (v.toNat / 10000) = 1 from mt (nI_eq (b := 1) (by omega) (by omega)).mp q1), if_neg (show ¬ nI 83 = 89 by decide), if_neg (show ¬ nI 83 = 88 by decide), hpg]
  rw [if_neg a5] at hkn
  by_cases a6 : f = 42 ∧ gr = 112
  · obtain ⟨rfl, rfl⟩ := a6
    have hl := ic_dot (N := N) (d := d) (cp := cp) (n := v.toNat / 10000) (oi := s.o_interpreter) hk hr hp he hv c2 c3
    refine ⟨s.g_page_stack, ?_, stk_S (hhi (by omega)) hst⟩
    show kDo N s (nI 10864) = _
    rw [kd_10864, c1]
    unfold kDotP
    refine Option.map_eq_some_iff.mpr ⟨_, ?_, rfl⟩
    rw [hpg]; exact hl
  · rw [if_neg a6] at hkn; exact absurd hkn (by decide)
def evM (la : Bool) : Int32 := if la then 12 else 4
theorem evM_16 (la : Bool) : evM la &&& 16 = 0 := by cases la <;> decide
theorem evM_7 (la : Bool) : evM la &&& 7 = 4 := by cases la <;> decide
theorem evM_8 (la : Bool) : evM la &&& 8 = 0 ↔ la = false := by cases la <;> decide
theorem ps_after {f gr : Nat} {la : Bool} {o : ob_Parser} {gd : Nat → Int32} {om : ob_mDesk} {go gs : Nat → Int32} (h1 : fd_Parser_mode o = (if la then 0 else 3)) (h2 : fd_mDesk_phase om = (if la then 0 else 3)) (hn : psN om) (hG : psG f gr o om) (hC : fldC 0 0 0 0 0 o) (hM : fldM 0 0 0 0 0 om) : psR o gd om go gs := by
  cases la with
  | true => exact Or.inl ⟨⟨h1, h2⟩, hn⟩
  | false => exact Or.inr (Or.inr (Or.inr (Or.inl ⟨f, gr, ⟨h1, h2⟩, hn, hG, 0, 0, 0, 0, 0, fld_0, hC, hM⟩)))
theorem en_la {la : Bool} {om om' : ob_mDesk} (h1 : ¬ fd_mDesk_phase om ≤ 1) (h2 : fd_mDesk_phase om' = (if la then 0 else 3)) : enB om om' = la := by
  unfold enB
  rw [decide_eq_true h1, h2]
  cases la <;> rfl
/-- the key of a command that the class looks up -/
theorem ka_cmd {N lv f gr : Nat} {s x : CS} (la : Bool) (hf : f < 256) (hg : gr < 256) (c1 : fd_Parser_family s.o_interpreter_parser = nI f) (c2 : fd_Parser_group s.o_interpreter_parser = nI gr) (h : kDo N s (nI (256 * f + gr)) = some x) (hl : fd_Interpreter_level x.o_interpreter = nI lv) (hlv : lv ≤ 2) : kAct N s (evM la) = some (if la then kTk x lv else x) := by
  refine ka_do la (evM_8 la) ?_ hl hlv
  rw [if_pos (evM_7 la), c1, c2, key_eq hf hg]; exact h
/-- a command that the desk knows, and that ejects nothing -/
theorem st_K {N d k r cp T lv a z b i f gr e : Nat} {v : Int} {sg la : Bool} {p : Nat → Nat} {s : CS} {m : RS} {lm : Nat → Int32} {own gl : Int32} {o' : ob_Parser} {om' : ob_mDesk} {g' : Nat → Int32} (hN : 2 ^ 22 < N) (hC : cCo N d k r cp T p s m) (hSd : cSd s m) (hL : lvB lv a z b s) (hpre : mByte N m (nI b) = (mIsSeq N (mAdvd m lm i own)).bind (fun was => (mDesk N (mAdvd m lm i own) (nI b)).bind (fun s2 => mPost N (mAdvd m lm i own) s2 gl was)))
    (ht : ex_Parser_take N s.o_interpreter_parser s.g_interpreter_parser_data (nI b) = some (o', s.g_interpreter_parser_data, evM la)) (hf : f < 256) (hg : gr < 256) (c1 : fd_Parser_family o' = nI f) (c2 : fd_Parser_group o' = nI gr)
    {x : CS} {cp' : Nat} {p' : Nat → Nat} {gk : Nat → Int32} (hx : kDo N (kPut s (upd s.g_interpreter_at lv (nI (a + 1))) o' s.g_interpreter_parser_data) (nI (256 * f + gr)) = some x) (hxe : x = kPs (kPut s (upd s.g_interpreter_at lv (nI (a + 1))) o' s.g_interpreter_parser_data) (pgC d k r cp' p') gk) (hcp : 1 ≤ cp' ∧ cp' ≤ 99) (hok : pOK k r p') (hst : stk p' gk)
    (hdk : ex_mDesk_comes N (fs_mDesk_thrown m.o_desk 0) m.g_desk_state m.g_desk_page (upd m.g_desk_steps i own) m.g_desk_glyph m.g_desk_other m.g_desk_store (nI b) = some (om', g', m.g_desk_page, m.g_desk_glyph, m.g_desk_other, m.g_desk_store)) (hdP : dkP m.o_desk om') (hcm : fd_mDesk_came om' = 0) (hot : fd_mDesk_others om' = 0) (hM : dkM k r cp' p' om' g') (hps : psR o' s.g_interpreter_parser_data om' m.g_desk_other m.g_desk_store) (hen : enB (fs_mDesk_thrown m.o_desk 0) om' = la) : bR N d T lv a b s m := by
  have hxl : fd_Interpreter_level x.o_interpreter = nI lv := by rw [hxe]; exact hL.1
  have ha := ka_cmd (N := N) (lv := lv) la hf hg (show fd_Parser_family (kPut s (upd s.g_interpreter_at lv (nI (a + 1))) o' s.g_interpreter_parser_data).o_interpreter_parser = nI f from c1) c2 hx hxl hL.2.1
  exact bR_of (st_P (e := la) (cp' := cp') (p' := p') (gk := gk) hN hC hSd hL hpre ht (evM_16 la) ha (by rw [hxe]) hcp hok hst hdk hdP hcm (Or.inl hot) hM hps hen)
theorem st_M1 {N d k r cp T lv a z b i : Nat} {p : Nat → Nat} {s : CS} {m : RS} {lm : Nat → Int32} {own gl : Int32} (hN : 2 ^ 22 < N) (hC : cCo N d k r cp T p s m) (hSd : cSd s m) (hL : lvB lv a z b s) (hpre : mByte N m (nI b) = (mIsSeq N (mAdvd m lm i own)).bind (fun was => (mDesk N (mAdvd m lm i own) (nI b)).bind (fun s2 => mPost N (mAdvd m lm i own) s2 gl was)))
    {o' : ob_Parser} {om1 : ob_mDesk} {f gr e ph sg wh bh pl : Nat} {la : Bool} (t1 : ex_Parser_take N s.o_interpreter_parser s.g_interpreter_parser_data (nI b) = some (o', s.g_interpreter_parser_data, if la then 12 else 4))
    (t2 : ex_mDesk_comes N (fs_mDesk_thrown m.o_desk 0) m.g_desk_state m.g_desk_page (upd m.g_desk_steps i own) m.g_desk_glyph m.g_desk_other m.g_desk_store (nI b) = (ex_mDesk_command N om1 m.g_desk_state m.g_desk_page m.g_desk_other (nI e) (nI la.toNat)).bind (fun u => some (u.1, u.2.1, u.2.2.1, m.g_desk_glyph, u.2.2.2, m.g_desk_store)))
    (t3 : dkQ m.o_desk om1) (t4 : fd_mDesk_came om1 = 0) (t5 : psN om1) (t6 : psG f gr o' om1) (t7 : e < 256) (t8 : fldN ph sg wh bh pl) (t9 : fldM ph sg wh bh pl om1) (t10 : fldC 0 0 0 0 0 o') (t11 : fd_Parser_mode o' = (if la then 0 else 3)) (t12 : fd_Parser_end o' = nI e) (t13 : fd_Parser_value o' = iI (vOf sg wh bh pl)) (t14 : fd_Parser_signed o' = nI (decide (sg ≠ 0)).toNat) (t16 : e = 87 → nOf sg wh = 0) (t17 : f = 38 ∧ gr = 112 ∧ e = 88 → nOf sg wh = 0) (t18 : ¬ fd_mDesk_phase m.o_desk ≤ 1)
    (hcase : (f = 38 ∧ gr = 112 ∧ e = 88) ∨ (knB f gr e = true ∧ ¬ (f = 38 ∧ gr = 108 ∧ (e = 65 ∨ e = 79)))) : bR N d T lv a b s m := by
  have hC0 := hC
  obtain ⟨hPg, hSh, hFo, hKn, hRa, hMa, hFl, hFa, hIt⟩ := hC
  obtain ⟨pd, pk, pr, pcp, pp, pok, pst, pdk, pd1, pd2⟩ := hPg
  obtain ⟨bf, bg, f1, f2, g1, g2⟩ := t6
  have hvb := vOf_bound t8
  have hnof : nOf sg wh ≤ 32767 := by have := t8.2.2.1; unfold nOf; split <;> omega
  have hM1 : dkM k r cp p om1 m.g_desk_state := dkM_Q pdk t3
  have ph0 : ∀ la : Bool, phD 0 la = if la then 0 else 3 := fun la => by cases la <;> rfl
  rcases hcase with htx | ⟨hkn, hno⟩
  · obtain ⟨rfl, rfl, rfl⟩ := htx
    have h0 := t17 ⟨rfl, rfl, rfl⟩
    have hT := md_cmdT (N := N) (la := la) (g := m.g_desk_state) (gp := m.g_desk_page) (go := m.g_desk_other) (by omega) t8 t9 f2 g2
    rw [h0] at hT
    obtain ⟨om', hom'⟩ : ∃ om', om' = fs_mDesk_phase (mBeg (fs_mDesk_dataTo (fs_mDesk_last (fs_mDesk_dataLeft om1 (nI 0)) (nI la.toNat)) 1)) (phD 0 la) := ⟨_, rfl⟩
    rw [← hom'] at hT
    have hQ' : dkQ om1 om' := by rw [hom']; exact dkQ_refl _
    have hph : fd_mDesk_phase om' = if la then 0 else 3 := by rw [hom']; exact ph0 la
    have hn' : psN om' := by rw [hom']; exact t5
    have hx : kDo N (kPut s (upd s.g_interpreter_at lv (nI (a + 1))) o' s.g_interpreter_parser_data) (nI (256 * 38 + 112)) = some (kPut s (upd s.g_interpreter_at lv (nI (a + 1))) o' s.g_interpreter_parser_data) := kd_no (by omega) (by omega)
    exact st_K (la := la) (om' := om') (g' := m.g_desk_state) (cp' := cp) (p' := p) (gk := s.g_page_stack) (f := 38) (gr := 112) (e := 88) (v := 0) (sg := false) hN hC0 hSd hL hpre t1 bf.2 bg f1 g1 hx (by rw [← pp]; rfl) pcp pok pst (t2.trans (bind_eq hT)) (dkP_Q (dkQ_trans t3 hQ')) (by rw [hom']; exact t4) hn'.1 (dkM_Q hM1 hQ') (ps_after (f := 38) (gr := 112) t11 hph hn' ⟨bf, bg, f1, by rw [hom']; exact f2, g1, by rw [hom']; exact g2⟩ t10 (by rw [hom']; exact ⟨rfl, rfl, rfl, rfl, rfl, rfl⟩)) (en_la t18 hph)
  · by_cases htx : f = 38 ∧ gr = 112 ∧ e = 88
    · obtain ⟨rfl, rfl, rfl⟩ := htx; exact absurd hkn (by decide)
    obtain ⟨omx, homx⟩ : ∃ omx, omx = fs_mDesk_dataTo (fs_mDesk_last (fs_mDesk_dataLeft om1 (nI (if e = 87 then nOf sg wh else 0))) (nI la.toNat)) 0 := ⟨_, rfl⟩
    have hdl : (if e = 87 then nOf sg wh else 0) = 0 := by
      by_cases q : e = 87
      · rw [if_pos q]; exact t16 q
      · rw [if_neg q]
    have hcmd := md_cmd (N := N) (la := la) (g := m.g_desk_state) (gp := m.g_desk_page) (go := m.g_desk_other) (by omega) t8 t9 f2 g2 bf.2 bg t7 htx
    rw [← homx] at hcmd
    have fx : fd_mDesk_family omx = nI f := by rw [homx]; exact f2
    have gx : fd_mDesk_group omx = nI gr := by rw [homx]; exact g2
    have sx : fd_mDesk_signed omx = nI (decide (sg ≠ 0)).toNat := by rw [homx]; exact t9.2.1
    have hMx : dkM k r cp p omx m.g_desk_state := by rw [homx]; exact hM1
    have hQx : dkQ om1 omx := by rw [homx]; exact dkQ_refl _
    have dlx : fd_mDesk_dataLeft omx = nI 0 := by rw [homx, hdl]
    have hnv := nOf_v t8
    by_cases q88 : f = 38 ∧ gr = 108 ∧ e = 88
    · obtain ⟨rfl, rfl, rfl⟩ := q88
      obtain ⟨pos, hpos⟩ := md_knownL (N := N) (e := 88) (n := nOf sg wh) (g := m.g_desk_state) (gp := m.g_desk_page) fx gx hvb
      have hX : ex_mDesk_paging N omx m.g_desk_state m.g_desk_page (nI 88) pos (nI (nOf sg wh)) = _ := md_pageX (N := N) (o := omx) (g := m.g_desk_state) (gp := m.g_desk_page) (pos := pos) hnof
      obtain ⟨cp', hcp'⟩ : ∃ cp', cp' = max 1 (min 99 (nOf sg wh)) := ⟨_, rfl⟩
      rw [← hcp'] at hX
      have hK : ex_mDesk_known N omx m.g_desk_state m.g_desk_page (nI 88) (iI (vOf sg wh bh pl)) (nI (nOf sg wh)) = some (fs_mDesk_copies omx (nI cp'), m.g_desk_state, m.g_desk_page, 1) := by
        rw [hpos, hX]
        simp only [Option.bind_some]
        rw [if_pos (show dk_bool 1 from Or.inr rfl)]
      obtain ⟨om', hom'⟩ : ∃ om', om' = fs_mDesk_phase (mBeg (fs_mDesk_copies omx (nI cp'))) (phD 0 la) := ⟨_, rfl⟩
      have h115 := md_115 (N := N) (dl := 0) (la := la) (go := m.g_desk_other) (g := m.g_desk_state) (gp := m.g_desk_page) (o := fs_mDesk_copies omx (nI cp')) dlx (by omega)
      rw [← hom'] at h115
      have hcm2 : ex_mDesk_command N om1 m.g_desk_state m.g_desk_page m.g_desk_other (nI 88) (nI la.toNat) = some (om', m.g_desk_state, m.g_desk_page, m.g_desk_other) := by
        rw [hcmd]
        refine (bind_eq hK).trans ?_
        exact (if_neg (show ¬ ((1 : Int32) = 0) by decide)).trans h115
      have hph : fd_mDesk_phase om' = if la then 0 else 3 := by rw [hom']; exact ph0 la
      have hn' : psN om' := by rw [hom', homx]; exact t5
      obtain ⟨n1, n2⟩ := ps_num (N := N) (o := o') t13 hvb
      rw [← hnv] at n1
      have hl := ic_layout (N := N) (d := d) (k := k) (r := r) (cp := cp) (p := p) (e := 88) (n := nOf sg wh) (oi := s.o_interpreter) (oS := s.o_sheet) (sg := false) (v := vOf sg wh bh pl) pk pr pok (by omega) hnof hvb.2 (by omega) (by omega)
      rw [if_pos rfl, ← hcp', show cmdN 38 108 88 k r p (nOf sg wh) (vOf sg wh bh pl) false = p from rfl] at hl
      have hx : kDo N (kPut s (upd s.g_interpreter_at lv (nI (a + 1))) o' s.g_interpreter_parser_data) (nI (256 * 38 + 108)) = some (kPs (kPut s (upd s.g_interpreter_at lv (nI (a + 1))) o' s.g_interpreter_parser_data) (pgC d k r cp' p) s.g_page_stack) := by
        show kDo N _ (nI 9836) = _
        rw [kd_9836]
        refine (bind_eq n1).trans ?_
        refine (bind_eq n2).trans ?_
        unfold kLayout
        refine Option.map_eq_some_iff.mpr ⟨(s.o_interpreter, pgC d k r cp' p), ?_, rfl⟩
        show ex_Interpreter_doLayout N s.o_interpreter s.o_sheet s.o_page (fd_Parser_end o') (nI (nOf sg wh)) _ = _
        rw [pp, t12]; exact hl
      have hM' : dkM k r cp' p om' m.g_desk_state := by
        obtain ⟨z1, z2, z3, z4, z5, z6⟩ := hMx
        rw [hom']; exact ⟨z1, z2, rfl, z4, z5, z6⟩
      have hdP9 : dkP m.o_desk om' := dkP_trans (dkP_Q t3) (by rw [hom', homx]; exact ⟨rfl, rfl, rfl, rfl⟩)
      have hcm9 : fd_mDesk_came om' = 0 := by rw [hom', homx]; exact t4
      have hG9 : psG 38 108 o' om' := ⟨bf, bg, f1, by rw [hom']; exact fx, g1, by rw [hom']; exact gx⟩
      have hF9 : fldM 0 0 0 0 0 om' := by rw [hom']; exact ⟨rfl, rfl, rfl, rfl, rfl, rfl⟩
      have hps9 : psR o' s.g_interpreter_parser_data om' m.g_desk_other m.g_desk_store := ps_after t11 hph hn' hG9 t10 hF9
      have hcp9 : 1 ≤ cp' ∧ cp' ≤ 99 := by rw [hcp']; omega
      exact st_K (la := la) (om' := om') (g' := m.g_desk_state) (cp' := cp') (p' := p) (gk := s.g_page_stack) (f := 38) (gr := 108) (e := 88) (v := 0) (sg := false) hN hC0 hSd hL hpre t1 bf.2 bg f1 g1 hx rfl hcp9 pok pst (t2.trans (bind_eq hcm2)) hdP9 hcm9 hn'.1 hM' hps9 (en_la t18 hph)
    · have hno3 : ¬ (f = 38 ∧ gr = 108 ∧ (e = 65 ∨ e = 79 ∨ e = 88)) := fun ⟨x1, x2, x3⟩ => by
        rcases x3 with h | h | h
        · exact hno ⟨x1, x2, Or.inl h⟩
        · exact hno ⟨x1, x2, Or.inr h⟩
        · exact q88 ⟨x1, x2, h⟩
      obtain ⟨g', k1, k2⟩ := md_knownP (N := N) (gp := m.g_desk_page) (n := nOf sg wh) (v := vOf sg wh bh pl) (sg := decide (sg ≠ 0)) pk pok hMx fx gx bf.2 bg t7 sx hvb vOf_pos hnof hno3
      rw [hkn] at k1
      obtain ⟨om', hom'⟩ : ∃ om', om' = fs_mDesk_phase (mBeg omx) (phD 0 la) := ⟨_, rfl⟩
      have h115 := md_115 (N := N) (dl := 0) (la := la) (go := m.g_desk_other) (g := g') (gp := m.g_desk_page) (o := omx) dlx (by omega)
      rw [← hom'] at h115
      have hcm2 : ex_mDesk_command N om1 m.g_desk_state m.g_desk_page m.g_desk_other (nI e) (nI la.toNat) = some (om', g', m.g_desk_page, m.g_desk_other) := by
        rw [hcmd]
        refine (bind_eq k1).trans ?_
        exact (if_neg (show ¬ nI true.toNat = 0 by decide)).trans h115
      have hph : fd_mDesk_phase om' = if la then 0 else 3 := by rw [hom']; exact ph0 la
      have hn' : psN om' := by rw [hom', homx]; exact t5
      have hcok := cmd_ok (f := f) (gr := gr) (e := e) (n := nOf sg wh) (sg := decide (sg ≠ 0)) (v := vOf sg wh bh pl) pk pok hvb.2
      obtain ⟨gk, x1, x2⟩ := kd_page (N := N) (d := d) (cp := cp) (s := kPut s (upd s.g_interpreter_at lv (nI (a + 1))) o' s.g_interpreter_parser_data) (f := f) (gr := gr) (e := e) (v := vOf sg wh bh pl) (sg := decide (sg ≠ 0)) pk pr pok pst pp t7 hvb t12 t13 t14 hkn hno3
      rw [← hnv] at x1 x2
      have hM' : dkM k r cp (cmdN f gr e k r p (nOf sg wh) (vOf sg wh bh pl) (decide (sg ≠ 0))) om' g' := by rw [hom']; exact dkM_Q k2 ⟨rfl, rfl, rfl, rfl, rfl, rfl, rfl, rfl, rfl⟩
      exact st_K (la := la) (om' := om') (g' := g') (cp' := cp) (p' := cmdN f gr e k r p (nOf sg wh) (vOf sg wh bh pl) (decide (sg ≠ 0))) (gk := gk) (f := f) (gr := gr) (e := e) (v := 0) (sg := false) hN hC0 hSd hL hpre t1 bf.2 bg f1 g1 x1 rfl pcp hcok.1 x2 (t2.trans (bind_eq hcm2)) (by rw [hom', homx]; exact dkP_Q t3) (by rw [hom', homx]; exact t4) hn'.1 hM' (ps_after (f := f) (gr := gr) t11 hph hn' ⟨bf, bg, f1, by rw [hom']; exact fx, g1, by rw [hom']; exact gx⟩ t10 (by rw [hom']; exact ⟨rfl, rfl, rfl, rfl, rfl, rfl⟩)) (en_la t18 hph)
/-- a command that may eject and then makes a new page -/
theorem st_AO {N d k r cp T lv a z b i f gr e k' r' P : Nat} {la du : Bool} {t tn : Int32} {p p' : Nat → Nat} {s : CS} {m : RS} {lm : Nat → Int32} {own gl : Int32} {o' : ob_Parser} {om1 omx o9 : ob_mDesk} {g' gp' : Nat → Int32} (hN : 2 ^ 22 < N) (hT : T < 2 ^ 28) (hC : cCo N d k r cp T p s m) (hSd : cSd s m) (hL : lvB lv a z b s) (hpre : mByte N m (nI b) = (mIsSeq N (mAdvd m lm i own)).bind (fun was => (mDesk N (mAdvd m lm i own) (nI b)).bind (fun s2 => mPost N (mAdvd m lm i own) s2 gl was)))
    (ht : ex_Parser_take N s.o_interpreter_parser s.g_interpreter_parser_data (nI b) = some (o', s.g_interpreter_parser_data, evM la)) (hf : 1 ≤ f ∧ f < 256) (hg : gr < 256) (c1 : fd_Parser_family o' = nI f) (c2 : fd_Parser_group o' = nI gr)
    (hx : kDo N (kPut s (upd s.g_interpreter_at lv (nI (a + 1))) o' s.g_interpreter_parser_data) (nI (256 * f + gr)) = some (kPg (kPut s (upd s.g_interpreter_at lv (nI (a + 1))) o' s.g_interpreter_parser_data) (fs_Interpreter_thenNumber (fs_Interpreter_then (fs_Interpreter_ejecting s.o_interpreter (nI du.toNat)) t) tn) (pgC d k r cp p)))
    (hfin : ∀ q, (q = p ∨ q = homN k r p) → ∀ oi st oS oF mk dt ids gl fd_ ch v, finT N oi (pgC d k r cp q) oS oF mk dt ids gl fd_ ch v t tn st = some (oi, pgC d k' r' cp p', oS, mk, dt))
    (hdue : dueB m.o_desk = du) (hk' : k' < 5) (hr' : r' < 4) (hok : pOK k' r' p') (hst : stk p' s.g_page_stack)
    (hdk : ex_mDesk_comes N (fs_mDesk_thrown m.o_desk 0) m.g_desk_state m.g_desk_page (upd m.g_desk_steps i own) m.g_desk_glyph m.g_desk_other m.g_desk_store (nI b) = some (fs_mDesk_phase (mBeg o9) (phD 0 la), g', gp', m.g_desk_glyph, m.g_desk_other, m.g_desk_store)) (hF : dkF omx o9) (hcm : fd_mDesk_came o9 = 0) (hnx : psN omx) (hfx : fd_mDesk_family omx = nI f) (hgx : fd_mDesk_group omx = nI gr) (hM : dkM k' r' cp p' o9 g')
    (hP : fd_mDesk_pages m.o_desk = nI P) (hP3 : P ≤ T) (hd0 : du = false → dkP m.o_desk o9) (hd1 : du = true → fd_mDesk_pages o9 = nI (P + 1) ∧ dkI (T + 4) o9 ∧ dueB o9 = false ∧ gp' (4 * (P % 40) + 3) = nI cp)
    (t10 : fldC 0 0 0 0 0 o') (t11 : fd_Parser_mode o' = (if la then 0 else 3)) (t18 : ¬ fd_mDesk_phase m.o_desk ≤ 1) : bR N d T lv a b s m := by
  have hC0 := hC
  obtain ⟨hPg, hSh, hFo, hKn, hRa, hMa, hFl, hFa, hIt⟩ := hC
  obtain ⟨pd, pk, pr, pcp, pp, pok, pst, pdk, pd1, pd2⟩ := hPg
  obtain ⟨oi2, hoi2⟩ : ∃ oi2, oi2 = fs_Interpreter_thenNumber (fs_Interpreter_then (fs_Interpreter_ejecting s.o_interpreter (nI du.toNat)) t) tn := ⟨_, rfl⟩
  rw [← hoi2] at hx
  have e2 : fd_Interpreter_level oi2 = fd_Interpreter_level s.o_interpreter := by rw [hoi2]
  have e3 : fd_Interpreter_then oi2 = t := by rw [hoi2]
  have e4 : fd_Interpreter_thenNumber oi2 = tn := by rw [hoi2]
  have e5 : fd_Interpreter_ejecting oi2 = nI du.toNat := by rw [hoi2]
  have ha := ka_cmd (N := N) (lv := lv) la hf.2 hg (show fd_Parser_family (kPut s (upd s.g_interpreter_at lv (nI (a + 1))) o' s.g_interpreter_parser_data).o_interpreter_parser = nI f from c1) c2 hx (e2.trans hL.1) hL.2.1
  obtain ⟨om', hom'⟩ : ∃ om', om' = fs_mDesk_phase (mBeg o9) (phD 0 la) := ⟨_, rfl⟩
  rw [← hom'] at hdk
  have hph : fd_mDesk_phase om' = if la then 0 else 3 := by rw [hom']; cases la <;> rfl
  have hn9 := psN_F hF hnx
  have hn' : psN om' := by rw [hom']; exact hn9
  have hG9 : psG f gr o' om' := ⟨hf, hg, c1, by rw [hom']; exact hF.2.1.trans hfx, c2, by rw [hom']; exact hF.2.2.1.trans hgx⟩
  have hF9 : fldM 0 0 0 0 0 om' := by rw [hom']; exact ⟨rfl, rfl, rfl, rfl, rfl, rfl⟩
  have hps9 : psR o' s.g_interpreter_parser_data om' m.g_desk_other m.g_desk_store := ps_after t11 hph hn' hG9 t10 hF9
  have hcm9 : fd_mDesk_came om' = 0 := by rw [hom']; exact hcm
  have hM9 : dkM k' r' cp p' om' g' := by rw [hom']; exact dkM_Q hM ⟨rfl, rfl, rfl, rfl, rfl, rfl, rfl, rfl, rfl⟩
  cases du with
  | false =>
    have hdP9 : dkP m.o_desk om' := dkP_trans (hd0 rfl) (by rw [hom']; exact ⟨rfl, rfl, rfl, rfl⟩)
    exact bR_of (st_R (e := la) (oi2 := oi2) (p1 := p) (k' := k') (r' := r') (cp' := cp) (p' := p') hN hC0 hSd hL hpre ht (evM_16 la) ha rfl e5 e2 (fun oS oF mk dt ids gl fd_ ch v => by rw [e3, e4]; exact hfin p (Or.inl rfl) _ _ oS oF mk dt ids gl fd_ ch v) hk' hr' pcp hok hst hdk hdP9 hdue hcm9 hn'.1 hM9 hps9 (en_la t18 hph))
  | true =>
    obtain ⟨x1, x2, x3, x4⟩ := hd1 rfl
    have hpp9 : fd_mDesk_pages om' = nI (P + 1) := by rw [hom']; exact x1
    have hI9 : dkI (T + 4) om' := dkI_P (a := o9) (by rw [hom']; exact ⟨rfl, rfl, rfl, rfl⟩) x2
    have hdu9 : dueB om' = false := (dueB_P (a := o9) (by rw [hom']; exact ⟨rfl, rfl, rfl, rfl⟩)).trans x3
    have ej : ¬ fd_Interpreter_ejecting oi2 = 0 := by rw [e5]; decide
    exact st_E (e := la) (oi2 := oi2) (P := P) (k' := k') (r' := r') (cp' := cp) (p1 := p) (p' := p') hN hC0 hSd hL hpre ht (evM_16 la) ha rfl ej e2 pok.2.2.2.2.1 pok.2.2.2.2.2.2.2.1 (fun oS oF mk dt ids gl fd_ ch v => by rw [e3, e4]; exact hfin _ (Or.inr rfl) _ _ oS oF mk dt ids gl fd_ ch v) hk' hr' pcp hok hst hdk (by omega) hP hpp9 (by omega) x4 hI9 hdu9 hcm9 hn'.1 hM9 hps9 (en_la t18 hph)
theorem fin_size {N d k r cp n j : Nat} {p : Nat → Nat} {oi : ob_Interpreter} {st : Int32} (hN : 10 < N) (hr : r < 4) (h7 : p 7 ≤ 122400) (hn : n ≤ 32767) (hj : szIx n = some j) (oS : ob_Sheet) (oF : ob_FontShelf) (mk dt ids gl fd_ ch : Nat → Int32) (v : Int32) : finT N oi (pgC d k r cp p) oS oF mk dt ids gl fd_ ch v 3 (nI n) st = some (oi, pgC d j r cp (dfN j r p), oS, mk, dt) := by
  unfold finT
  rw [if_neg (show ¬ ((3 : Int32) = 1) by decide), if_neg (show ¬ ((3 : Int32) = 2) by decide), if_pos rfl, pg_size hN hr h7 (by omega) hj]; rfl
theorem fin_orient {N d k r cp n : Nat} {p : Nat → Nat} {oi : ob_Interpreter} {st : Int32} (hk : k < 5) (h7 : p 7 ≤ 122400) (hn : n < 4) (oS : ob_Sheet) (oF : ob_FontShelf) (mk dt ids gl fd_ ch : Nat → Int32) (v : Int32) : finT N oi (pgC d k r cp p) oS oF mk dt ids gl fd_ ch v 4 (nI n) st = some (oi, pgC d k n cp (dfN k n p), oS, mk, dt) := by
  unfold finT
  rw [if_neg (show ¬ ((4 : Int32) = 1) by decide), if_neg (show ¬ ((4 : Int32) = 2) by decide), if_neg (show ¬ ((4 : Int32) = 3) by decide), if_pos rfl, pg_orient hk h7 hn]; rfl
theorem ej_F9 (o : ob_mDesk) (n w h : Int32) (du : Bool) : dkF o (fs_mDesk_height (fs_mDesk_width (fs_mDesk_size (if du then ejO o else o) n) w) h) ∧ dkF o (fs_mDesk_height (fs_mDesk_width (fs_mDesk_orientation (if du then ejO o else o) n) w) h) := by
  cases du <;> exact ⟨⟨rfl, rfl, rfl, rfl, rfl, rfl, rfl, rfl, rfl, rfl, rfl, rfl, rfl, rfl⟩, ⟨rfl, rfl, rfl, rfl, rfl, rfl, rfl, rfl, rfl, rfl, rfl, rfl, rfl, rfl⟩⟩
theorem pgA_no {N n : Nat} {o : ob_mDesk} {g gp : Nat → Int32} {pos : Int64} (hn : n ≤ 32767) (h : szIx n = none) : ex_mDesk_paging N o g gp (nI 65) pos (nI n) = some (o, g, gp, 1) := by
  unfold ex_mDesk_paging
  rw [if_pos (show nI 65 = 65 from rfl), md_acrN (by omega), h]; rfl
theorem pgO_no {N n : Nat} {o : ob_mDesk} {g gp : Nat → Int32} {pos : Int64} (hn : n ≤ 32767) (h : ¬ n < 4) : ex_mDesk_paging N o g gp (nI 79) pos (nI n) = some (o, g, gp, 1) := by
  have e : ex_mDesk_paging N o g gp (nI 79) pos (nI n) = if (4 : Int32) ≤ nI n then some (o, g, gp, 1) else ((ex_mDesk_ejectIfDue N o g gp).bind (fun u => (ex_mDesk_defaults N (fs_mDesk_orientation u.1 (nI n)) u.2.1).bind (fun w => some (w.1, w.2, u.2.2, 1)))) := rfl
  rw [e, if_pos (show (4 : Int32) ≤ nI n from nI_le (a := 4) (by omega) (by omega))]
theorem st_M2 {N d k r cp T lv a z b i : Nat} {p : Nat → Nat} {s : CS} {m : RS} {lm : Nat → Int32} {own gl : Int32} (hN : 2 ^ 22 < N) (hT : T < 2 ^ 28) (hC : cCo N d k r cp T p s m) (hSd : cSd s m) (hL : lvB lv a z b s) (hpre : mByte N m (nI b) = (mIsSeq N (mAdvd m lm i own)).bind (fun was => (mDesk N (mAdvd m lm i own) (nI b)).bind (fun s2 => mPost N (mAdvd m lm i own) s2 gl was)))
    {o' : ob_Parser} {om1 : ob_mDesk} {e ph sg wh bh pl : Nat} {la : Bool} (t1 : ex_Parser_take N s.o_interpreter_parser s.g_interpreter_parser_data (nI b) = some (o', s.g_interpreter_parser_data, if la then 12 else 4))
    (t2 : ex_mDesk_comes N (fs_mDesk_thrown m.o_desk 0) m.g_desk_state m.g_desk_page (upd m.g_desk_steps i own) m.g_desk_glyph m.g_desk_other m.g_desk_store (nI b) = (ex_mDesk_command N om1 m.g_desk_state m.g_desk_page m.g_desk_other (nI e) (nI la.toNat)).bind (fun u => some (u.1, u.2.1, u.2.2.1, m.g_desk_glyph, u.2.2.2, m.g_desk_store)))
    (t3 : dkQ m.o_desk om1) (t4 : fd_mDesk_came om1 = 0) (t5 : psN om1) (t6 : psG 38 108 o' om1) (t8 : fldN ph sg wh bh pl) (t9 : fldM ph sg wh bh pl om1) (t10 : fldC 0 0 0 0 0 o') (t11 : fd_Parser_mode o' = (if la then 0 else 3)) (t12 : fd_Parser_end o' = nI e) (t13 : fd_Parser_value o' = iI (vOf sg wh bh pl)) (t18 : ¬ fd_mDesk_phase m.o_desk ≤ 1)
    (hcase : e = 65 ∨ e = 79) : bR N d T lv a b s m := by
  have hC0 := hC
  obtain ⟨hPg, hSh, hFo, hKn, hRa, hMa, hFl, hFa, hIt⟩ := hC
  obtain ⟨pd, pk, pr, pcp, pp, pok, pst, pdk, pd1, pd2⟩ := hPg
  obtain ⟨bf, bg, f1, f2, g1, g2⟩ := t6
  obtain ⟨P, P1, P2⟩ := dk_pages hSh.1
  have hvb := vOf_bound t8
  have hnof : nOf sg wh ≤ 32767 := by have := t8.2.2.1; unfold nOf; split <;> omega
  have h7 : p 7 ≤ 122400 := pok.2.2.2.2.2.2.2.1
  have hM1 : dkM k r cp p om1 m.g_desk_state := dkM_Q pdk t3
  obtain ⟨omx, homx⟩ : ∃ omx, omx = fs_mDesk_dataTo (fs_mDesk_last (fs_mDesk_dataLeft om1 (nI (if e = 87 then nOf sg wh else 0))) (nI la.toNat)) 0 := ⟨_, rfl⟩
  have hdl : (if e = 87 then nOf sg wh else 0) = 0 := if_neg (by omega)
  have hcmd := md_cmd (N := N) (la := la) (e := e) (g := m.g_desk_state) (gp := m.g_desk_page) (go := m.g_desk_other) (by omega) t8 t9 f2 g2 bf.2 bg (by omega) (by omega)
  rw [← homx] at hcmd
  have fx : fd_mDesk_family omx = nI 38 := by rw [homx]; exact f2
  have gx : fd_mDesk_group omx = nI 108 := by rw [homx]; exact g2
  have nx : psN omx := by rw [homx]; exact t5
  have cx : fd_mDesk_came omx = 0 := by rw [homx]; exact t4
  have hQx : dkQ m.o_desk omx := by rw [homx]; exact t3
  have hMx : dkM k r cp p omx m.g_desk_state := dkM_Q pdk hQx
  have dlx : fd_mDesk_dataLeft omx = nI 0 := by rw [homx, hdl]
  have Px : fd_mDesk_pages omx = nI P := hQx.2.2.2.2.2.2.2.2.trans P2
  have dux : dueB omx = dueB m.o_desk := dueB_Q hQx
  have Ix : dkI T omx := dkI_Q hQx hSh.1
  obtain ⟨n1, n2⟩ := ps_num (N := N) (o := o') t13 hvb
  rw [← nOf_v t8] at n1
  obtain ⟨pos, hpos⟩ := md_knownL (N := N) (e := e) (n := nOf sg wh) (g := m.g_desk_state) (gp := m.g_desk_page) fx gx hvb
  -- the reference, by what paging gives
  have cmdOf : ∀ (o9 : ob_mDesk) (g' gp' : Nat → Int32), ex_mDesk_paging N omx m.g_desk_state m.g_desk_page (nI e) pos (nI (nOf sg wh)) = some (o9, g', gp', 1) → fd_mDesk_dataLeft o9 = nI 0 → ex_mDesk_comes N (fs_mDesk_thrown m.o_desk 0) m.g_desk_state m.g_desk_page (upd m.g_desk_steps i own) m.g_desk_glyph m.g_desk_other m.g_desk_store (nI b) = some (fs_mDesk_phase (mBeg o9) (phD 0 la), g', gp', m.g_desk_glyph, m.g_desk_other, m.g_desk_store) := fun o9 g' gp' hq hd9 => by
    have hK : ex_mDesk_known N omx m.g_desk_state m.g_desk_page (nI e) (iI (vOf sg wh bh pl)) (nI (nOf sg wh)) = some (o9, g', gp', 1) := by
      rw [hpos, hq]
      simp only [Option.bind_some]
      rw [if_pos (show dk_bool 1 from Or.inr rfl)]
    have h115 := md_115 (N := N) (dl := 0) (la := la) (go := m.g_desk_other) (g := g') (gp := gp') (o := o9) hd9 (by omega)
    have hc2 : ex_mDesk_command N om1 m.g_desk_state m.g_desk_page m.g_desk_other (nI e) (nI la.toNat) = some (fs_mDesk_phase (mBeg o9) (phD 0 la), g', gp', m.g_desk_other) := by
      rw [hcmd]
      refine (bind_eq hK).trans ?_
      exact (if_neg (show ¬ ((1 : Int32) = 0) by decide)).trans h115
    exact t2.trans (bind_eq hc2)
  -- the class
  have kdOf : ∀ y : ob_Interpreter × ob_Page, ex_Interpreter_doLayout N s.o_interpreter s.o_sheet (pgC d k r cp p) (nI e) (nI (nOf sg wh)) (lI ((vOf sg wh bh pl).toNat : Int)) = some y → kDo N (kPut s (upd s.g_interpreter_at lv (nI (a + 1))) o' s.g_interpreter_parser_data) (nI (256 * 38 + 108)) = some (kPg (kPut s (upd s.g_interpreter_at lv (nI (a + 1))) o' s.g_interpreter_parser_data) y.1 y.2) := fun y hy => by
    show kDo N _ (nI 9836) = _
    rw [kd_9836]
    refine (bind_eq n1).trans ?_
    refine (bind_eq n2).trans ?_
    unfold kLayout
    refine Option.map_eq_some_iff.mpr ⟨y, ?_, rfl⟩
    show ex_Interpreter_doLayout N s.o_interpreter s.o_sheet s.o_page (fd_Parser_end o') (nI (nOf sg wh)) _ = _
    rw [pp, t12]; exact hy
  -- nothing happens
  have none_ : ex_mDesk_paging N omx m.g_desk_state m.g_desk_page (nI e) pos (nI (nOf sg wh)) = some (omx, m.g_desk_state, m.g_desk_page, 1) → ex_Interpreter_doLayout N s.o_interpreter s.o_sheet (pgC d k r cp p) (nI e) (nI (nOf sg wh)) (lI ((vOf sg wh bh pl).toNat : Int)) = some (s.o_interpreter, pgC d k r cp p) → bR N d T lv a b s m := fun h1 h2 => by
    obtain ⟨om', hom'⟩ : ∃ om', om' = fs_mDesk_phase (mBeg omx) (phD 0 la) := ⟨_, rfl⟩
    have hd := cmdOf omx _ _ h1 dlx
    rw [← hom'] at hd
    have hph : fd_mDesk_phase om' = if la then 0 else 3 := by rw [hom']; cases la <;> rfl
    have hn' : psN om' := by rw [hom']; exact nx
    have hG9 : psG 38 108 o' om' := ⟨bf, bg, f1, by rw [hom']; exact fx, g1, by rw [hom']; exact gx⟩
    have hF9 : fldM 0 0 0 0 0 om' := by rw [hom']; exact ⟨rfl, rfl, rfl, rfl, rfl, rfl⟩
    have hQ9 : dkQ m.o_desk om' := dkQ_trans hQx (by rw [hom']; exact ⟨rfl, rfl, rfl, rfl, rfl, rfl, rfl, rfl, rfl⟩)
    exact st_K (la := la) (om' := om') (g' := m.g_desk_state) (cp' := cp) (p' := p) (gk := s.g_page_stack) (f := 38) (gr := 108) (e := e) (v := 0) (sg := false) hN hC0 hSd hL hpre t1 bf.2 bg f1 g1 (kdOf _ h2) rfl pcp pok pst hd (dkP_Q hQ9) (by rw [hom']; exact cx) hn'.1 (dkM_Q pdk hQ9) (ps_after t11 hph hn' hG9 t10 hF9) (en_la t18 hph)
  rcases hcase with rfl | rfl
  · have hl := ic_layA (N := N) (d := d) (k := k) (r := r) (cp := cp) (p := p) (oi := s.o_interpreter) (oS := s.o_sheet) (v2 := lI ((vOf sg wh bh pl).toNat : Int)) (by omega) hnof hSh.2.1
    have hl' : ex_Interpreter_doLayout N s.o_interpreter s.o_sheet (pgC d k r cp p) (nI 65) (nI (nOf sg wh)) (lI ((vOf sg wh bh pl).toNat : Int)) = _ := hl
    cases hj : szIx (nOf sg wh) with
    | none =>
      rw [hj] at hl'
      exact none_ (pgA_no hnof hj) hl'
    | some j =>
      rw [hj, if_pos (show (some j).isSome = true from rfl)] at hl'
      obtain ⟨hj5, hjn⟩ := szIx_ok hj
      obtain ⟨g', gp', o9, q1, q2, q3, q4, q5⟩ := md_pageA (N := N) (gp := m.g_desk_page) (pos := pos) pk pr pok (by omega) Px hMx hnof hj
      have q1' : ex_mDesk_paging N omx m.g_desk_state m.g_desk_page (nI 65) pos (nI (nOf sg wh)) = some (o9, g', gp', 1) := q1
      rw [dux] at q2 q4 q5
      have hF := (ej_F9 omx (nI (nOf sg wh)) (nI (pgW j r)) (nI (pgH j r)) (dueB m.o_desk)).1
      rw [← q2] at hF
      have hdf := df_ok (k := j) (r := r) hj5 pok
      have hc9 : fd_mDesk_came o9 = 0 := by rw [q2]; cases dueB m.o_desk <;> exact cx
      refine st_AO (f := 38) (gr := 108) (e := 65) (om1 := om1) (omx := omx) (o9 := o9) (k' := j) (r' := r) (P := P) (p' := dfN j r p) (t := 3) (tn := nI (nOf sg wh)) (du := dueB m.o_desk) hN hT hC0 hSd hL hpre t1 bf bg f1 g1 (kdOf _ hl') (fun q hq oi st oS oF mk dt ids gl fd_ ch v => ?_) rfl hj5 pr hdf.1 (stk_S hdf.2 pst) (cmdOf _ _ _ q1' (by rw [hF.2.2.2.2.2.2.2.2.2.1]; exact dlx)) hF hc9 nx fx gx q3 P2 P1 (fun h => ?_) (fun h => ?_) t10 t11 t18
      · rcases hq with rfl | rfl
        · exact fin_size (by omega) pr h7 hnof hj oS oF mk dt ids gl fd_ ch v
        · have := fin_size (N := N) (d := d) (k := k) (cp := cp) (p := homN k r p) (oi := oi) (st := st) (by omega) pr (show homN k r p 7 ≤ 122400 from h7) hnof hj oS oF mk dt ids gl fd_ ch v
          rw [dfN_hom] at this; exact this
      · rw [h] at q2
        exact dkP_trans (dkP_Q hQx) (by rw [q2]; exact ⟨rfl, rfl, rfl, rfl⟩)
      · rw [h] at q2
        have hej : dkP (ejO omx) o9 := by rw [q2]; exact ⟨rfl, rfl, rfl, rfl⟩
        refine ⟨?_, dkI_P hej ((ejO_I Ix).mono (by omega)), (dueB_P hej).trans (ejO_due _), q4 h⟩
        rw [hej.2.2.2]; show fd_mDesk_pages omx + 1 = _; rw [Px, nI_1]
  · have hl := ic_layO (N := N) (d := d) (k := k) (r := r) (cp := cp) (p := p) (oi := s.o_interpreter) (oS := s.o_sheet) (v2 := lI ((vOf sg wh bh pl).toNat : Int)) hnof hSh.2.1
    have hl' : ex_Interpreter_doLayout N s.o_interpreter s.o_sheet (pgC d k r cp p) (nI 79) (nI (nOf sg wh)) (lI ((vOf sg wh bh pl).toNat : Int)) = _ := hl
    by_cases hj : nOf sg wh < 4
    · rw [if_pos hj] at hl'
      obtain ⟨g', gp', o9, q1, q2, q3, q4, q5⟩ := md_pageO (N := N) (gp := m.g_desk_page) (pos := pos) pk pok (by omega) Px hMx hj
      have q1' : ex_mDesk_paging N omx m.g_desk_state m.g_desk_page (nI 79) pos (nI (nOf sg wh)) = some (o9, g', gp', 1) := q1
      rw [dux] at q2 q4 q5
      have hF := (ej_F9 omx (nI (nOf sg wh)) (nI (pgW k (nOf sg wh))) (nI (pgH k (nOf sg wh))) (dueB m.o_desk)).2
      rw [← q2] at hF
      have hdf := df_ok (k := k) (r := nOf sg wh) pk pok
      have hc9 : fd_mDesk_came o9 = 0 := by rw [q2]; cases dueB m.o_desk <;> exact cx
      refine st_AO (f := 38) (gr := 108) (e := 79) (om1 := om1) (omx := omx) (o9 := o9) (k' := k) (r' := nOf sg wh) (P := P) (p' := dfN k (nOf sg wh) p) (t := 4) (tn := nI (nOf sg wh)) (du := dueB m.o_desk) hN hT hC0 hSd hL hpre t1 bf bg f1 g1 (kdOf _ hl') (fun q hq oi st oS oF mk dt ids gl fd_ ch v => ?_) rfl pk hj hdf.1 (stk_S hdf.2 pst) (cmdOf _ _ _ q1' (by rw [hF.2.2.2.2.2.2.2.2.2.1]; exact dlx)) hF hc9 nx fx gx q3 P2 P1 (fun h => ?_) (fun h => ?_) t10 t11 t18
      · rcases hq with rfl | rfl
        · exact fin_orient pk h7 hj oS oF mk dt ids gl fd_ ch v
        · have := fin_orient (N := N) (d := d) (r := r) (cp := cp) (p := homN k r p) (oi := oi) (st := st) pk (show homN k r p 7 ≤ 122400 from h7) hj oS oF mk dt ids gl fd_ ch v
          rw [dfN_hom] at this; exact this
      · rw [h] at q2
        exact dkP_trans (dkP_Q hQx) (by rw [q2]; exact ⟨rfl, rfl, rfl, rfl⟩)
      · rw [h] at q2
        have hej : dkP (ejO omx) o9 := by rw [q2]; exact ⟨rfl, rfl, rfl, rfl⟩
        refine ⟨?_, dkI_P hej ((ejO_I Ix).mono (by omega)), (dueB_P hej).trans (ejO_due _), q4 h⟩
        rw [hej.2.2.2]; show fd_mDesk_pages omx + 1 = _; rw [Px, nI_1]
    · rw [if_neg hj] at hl'
      exact none_ (pgO_no hnof hj) hl'
