theorem sl_weight {N F : Nat} {v : Int} {o : ob_FontShelf} {om : ob_mShelf} {lc lm ac am : Nat → Int32} {L : Nat → Bool} (hN : 1000 < N) (hF : F ≤ 32) (ho : fd_FontShelf_fonts o = nI F) (hm : fd_mShelf_fonts om = nI F) (hat : agree (7 * F) ac am) (hok : ∀ i, i < F → -7 ≤ atI ac 5 i ∧ atI ac 5 i ≤ 7) (hv : -7 ≤ v ∧ v ≤ 7) (hl : lfR F L lc) (hl2 : lfR F L lm) :
    ∃ lc' r lm', ex_FontShelf_keepThose N o lc ac 5 (iI v) = some (lc', r) ∧ ex_mShelf_byWeight N om am lm (iI v) = some lm' ∧ ((r ≠ 0 ∧ ∃ L', lfR F L' lc' ∧ lfR F L' lm') ∨ (r = 0 ∧ ∃ hh lc2 r2 L', ex_FontShelf_bestWeight N o ac lc' (iI v) = some hh ∧ ex_FontShelf_keepThose N o lc' ac 5 hh = some (lc2, r2) ∧ lfR F L' lc2 ∧ lfR F L' lm')) := by
  have hx : ∀ i, i < F → atI ac 5 i = atI am 5 i := fun i hi => by unfold atI; rw [hat _ (by omega)]
  obtain ⟨lc1, lm1, e1, e2, e3, e4⟩ := sl_strike (N := N) (a := 5) (v := iI v) hN hF (by omega) ho hm hat hl hl2
  have e1' : ex_FontShelf_keepThose N o lc ac 5 (iI v) = _ := e1
  have e2' : ex_mShelf_strike N om lm am 5 (iI v) = _ := e2
  unfold ex_mShelf_byWeight
  rw [e2']
  simp only [Option.bind_some]
  cases hany : anyL L (fun i => decide (ac (7 * i + 5) = iI v)) F with
  | true =>
    rw [hany] at e1'
    refine ⟨lc1, _, lm1, e1', ?_, Or.inl ⟨by decide, _, e3, e4⟩⟩
    rw [if_neg (show ¬ nI true.toNat = 0 by decide)]
  | false =>
    rw [hany] at e1'
    have hl3 : lfR F L lc1 := fun i hi => by rw [e3 i hi, strL_off hany]
    have hl4 : lfR F L lm1 := fun i hi => by rw [e4 i hi, strL_off hany]
    have hne : ∀ i, i < F → L i = true → atI ac 5 i ≠ v := fun i hi hL hq => by
      have := anyL_false F hany i hi hL
      have h2 : ac (7 * i + 5) = iI v := by rw [← hq]; exact (iI_self _).symm
      rw [decide_eq_true h2] at this; exact absurd this (by decide)
    rw [if_pos (show nI false.toNat = 0 by decide)]
    have same : ∀ z : Int32, ∃ lc' r lm' L', ex_FontShelf_keepThose N o lc1 ac 5 z = some (lc', r) ∧ (ex_mShelf_strike N om lm1 am 5 z).bind (fun u => some u.1) = some lm' ∧ lfR F L' lc' ∧ lfR F L' lm' := fun z => by
      obtain ⟨lc', lm', e1, e2, e3, e4⟩ := sl_strike (N := N) (a := 5) (v := z) hN hF (by omega) ho hm hat hl3 hl4
      have e2' : ex_mShelf_strike N om lm1 am 5 z = _ := e2
      exact ⟨lc', _, lm', _, e1, by rw [e2']; rfl, e3, e4⟩
    have nothing : ∀ z : Int, -100 < z ∧ z < 100 → (∀ i, i < F → L i = true → atI ac 5 i ≠ z) → (∃ lc', ex_FontShelf_keepThose N o lc1 ac 5 (iI z) = some (lc', 0) ∧ lfR F L lc') ∧ (∃ lm', (ex_mShelf_strike N om lm1 am 5 (iI z)).bind (fun u => some u.1) = some lm' ∧ lfR F L lm') := fun z hz h => by
      obtain ⟨lc', lm', e1, e2, e3, e4⟩ := sl_strike (N := N) (a := 5) (v := iI z) hN hF (by omega) ho hm hat hl3 hl4
      have e1' : ex_FontShelf_keepThose N o lc1 ac 5 (iI z) = _ := e1
      have e2' : ex_mShelf_strike N om lm1 am 5 (iI z) = _ := e2
      have ha : anyL L (fun i => decide (ac (7 * i + 5) = iI z)) F = false := by
        cases hq : anyL L (fun i => decide (ac (7 * i + 5) = iI z)) F with
        | false => rfl
        | true =>
          exfalso
          have : anyL L (fun i => decide (ac (7 * i + 5) = iI z)) F = anyL (fun i => L i) (fun i => false) F := by
            have hh : ∀ n, n ≤ F → anyL L (fun i => decide (ac (7 * i + 5) = iI z)) n = false := by
              intro n
              induction n with
              | zero => intro _; rfl
              | succ n ih =>
                intro hn
                show (anyL L _ n || (L n && decide (ac (7 * n + 5) = iI z))) = false
                rw [ih (by omega), Bool.false_or]
                cases hL : L n with
                | false => rfl
                | true =>
                  rw [Bool.true_and]
                  exact decide_eq_false (fun hc => h n (by omega) hL (by unfold atI; rw [hc, iI_toInt (by omega)]))
            rw [hh F (Nat.le_refl _)] at hq; exact absurd hq (by decide)
          rw [this, anyL_none F (fun i _ => rfl)] at hq; exact absurd hq (by decide)
      rw [ha] at e1' 
      exact ⟨⟨lc', e1', fun i hi => by rw [e3 i hi, strL_off ha]⟩, ⟨lm', by rw [e2']; rfl, fun i hi => by rw [e4 i hi, strL_off ha]⟩⟩
    have cc := wt_c (N := N) (v := v) (ac := ac) hN hF ho hl3 hok hv
    have bdn : best false (fun i => L i && decide (-7 ≤ atI am 5 i ∧ atI am 5 i ≤ v - 1)) (atI am 5) F = best false (fun i => L i && decide (0 < -1 * (atI ac 5 i - v))) (atI ac 5) F := best_congr F (fun i hi => ⟨by
      show (L i && decide _) = (L i && decide _)
      rw [← hx i hi]; congr 1; exact decide_eq_decide.mpr (by have := hok i hi; omega), (hx i hi).symm⟩)
    have bup : best true (fun i => L i && decide (v + 1 ≤ atI am 5 i ∧ atI am 5 i ≤ 7)) (atI am 5) F = best true (fun i => L i && decide (0 < 1 * (atI ac 5 i - v))) (atI ac 5) F := best_congr F (fun i hi => ⟨by
      show (L i && decide _) = (L i && decide _)
      rw [← hx i hi]; congr 1; exact decide_eq_decide.mpr (by have := hok i hi; omega), (hx i hi).symm⟩)
    by_cases q : v < 0
    · have q1 : iI v < 0 := (iI_lt (b := 0) (by omega) (by omega)).mpr q
      have q2 : ¬ (0 : Int32) ≤ iI v := mt (iI_le (a := 0) (by omega) (by omega)).mp (by omega)
      have m1 := en_m (N := N) (om := om) (lm := lm1) (am := am) (a := 5) (lo := -7) (hi := v - 1) (ls := false) hF (by omega) (by omega) (by omega) hm hl4 hN
      have m2 := en_m (N := N) (om := om) (lm := lm1) (am := am) (a := 5) (lo := -7) (hi := 7) (ls := true) hF (by omega) (by omega) (by omega) hm hl4 hN
      rw [bdn] at m1
      have m1' : ex_mShelf_end N om am lm1 5 (-7) (iI v - 1) 0 = some (iI ((best false (fun i => L i && decide (0 < -1 * (atI ac 5 i - v))) (atI ac 5) F).getD (-7 - 1))) := by
        have e : iI v - 1 = iI (v - 1) := iI_sub v 1
        rw [e]; exact m1
      have m2' : ex_mShelf_end N om am lm1 5 (-7) 7 1 = _ := m2
      rw [if_pos q1, m1']
      simp only [Option.bind_some]
      rw [if_pos q1]
      rw [if_pos q] at cc
      cases hA : best false (fun i => L i && decide (0 < -1 * (atI ac 5 i - v))) (atI ac 5) F with
      | some b =>
        rw [hA] at cc
        obtain ⟨i, i1, i2, i3⟩ := best_in F b hA
        have hb := hok i i1
        rw [i3] at hb
        rw [if_neg (show ¬ iI ((some b).getD (-7 - 1)) = -8 from by rw [show (-8 : Int32) = iI (-8) from by decide]; exact mt (iI_eq (by show _ ≤ b ∧ b < _; omega) (by omega)).mp (by show ¬ b = -8; omega))]
        obtain ⟨lc', r, lm', L', s1, s2, s3, s4⟩ := same (iI b)
        exact ⟨lc1, _, lm', e1', s2, Or.inr ⟨rfl, iI b, lc', r, L', cc, s1, s3, s4⟩⟩
      | none =>
        rw [hA] at cc
        have nb := best_none F hA
        have bal : best true (fun i => L i && decide (-7 ≤ atI am 5 i ∧ atI am 5 i ≤ 7)) (atI am 5) F = best true (fun i => L i && decide (0 < 1 * (atI ac 5 i - v))) (atI ac 5) F := best_congr F (fun i hi => ⟨by
          show (L i && decide _) = (L i && decide _)
          rw [← hx i hi]
          have h1 : (L i && decide (0 < -1 * (atI ac 5 i - v))) = false := nb i hi
          cases hL : L i with
          | false => rfl
          | true =>
            rw [hL, Bool.true_and] at h1
            have h2 := of_decide_eq_false h1
            have h3 := hne i hi hL
            have := hok i hi
            congr 1; exact decide_eq_decide.mpr (by omega), (hx i hi).symm⟩)
        rw [bal] at m2'
        rw [if_pos (show iI ((none : Option Int).getD (-7 - 1)) = -8 from by decide), if_neg q2, m2']
        simp only [Option.bind_some]
        cases hB : best true (fun i => L i && decide (0 < 1 * (atI ac 5 i - v))) (atI ac 5) F with
        | some b =>
          rw [hB] at cc
          obtain ⟨lc', r, lm', L', s1, s2, s3, s4⟩ := same (iI b)
          exact ⟨lc1, _, lm', e1', s2, Or.inr ⟨rfl, iI b, lc', r, L', cc, s1, s3, s4⟩⟩
        | none =>
          rw [hB] at cc
          obtain ⟨⟨lc', s1, s2⟩, -⟩ := nothing v (by omega) hne
          obtain ⟨-, ⟨lm', s3, s4⟩⟩ := nothing (-8) (by omega) (fun i hi _ => by have := hok i hi; omega)
          exact ⟨lc1, _, lm', e1', s3, Or.inr ⟨rfl, iI v, lc', 0, L, cc, s1, s2, s4⟩⟩
    · have q1 : ¬ iI v < 0 := mt (iI_lt (b := 0) (by omega) (by omega)).mp q
      have q2 : (0 : Int32) ≤ iI v := (iI_le (a := 0) (by omega) (by omega)).mpr (by omega)
      have m1 := en_m (N := N) (om := om) (lm := lm1) (am := am) (a := 5) (lo := v + 1) (hi := 7) (ls := true) hF (by omega) (by omega) (by omega) hm hl4 hN
      have m2 := en_m (N := N) (om := om) (lm := lm1) (am := am) (a := 5) (lo := -7) (hi := 7) (ls := false) hF (by omega) (by omega) (by omega) hm hl4 hN
      rw [bup] at m1
      have m1' : ex_mShelf_end N om am lm1 5 (iI v + 1) 7 1 = some (iI ((best true (fun i => L i && decide (0 < 1 * (atI ac 5 i - v))) (atI ac 5) F).getD (v + 1 - 1))) := by
        have e : iI v + 1 = iI (v + 1) := iI_add v 1
        rw [e]; exact m1
      have m2' : ex_mShelf_end N om am lm1 5 (-7) 7 0 = _ := m2
      rw [if_neg q1, m1']
      simp only [Option.bind_some]
      rw [if_neg q1]
      rw [if_neg q] at cc
      cases hA : best true (fun i => L i && decide (0 < 1 * (atI ac 5 i - v))) (atI ac 5) F with
      | some b =>
        rw [hA] at cc
        obtain ⟨i, i1, i2, i3⟩ := best_in F b hA
        have i2' : (L i && decide (0 < 1 * (atI ac 5 i - v))) = true := i2
        rw [Bool.and_eq_true] at i2'
        have i4 : 0 < 1 * (atI ac 5 i - v) := of_decide_eq_true i2'.2
        have hb := hok i i1
        rw [i3] at hb i4
        rw [if_neg (show ¬ iI ((some b).getD (v + 1 - 1)) = iI v from mt (iI_eq (by show _ ≤ b ∧ b < _; omega) (by omega)).mp (by show ¬ b = v; omega))]
        obtain ⟨lc', r, lm', L', s1, s2, s3, s4⟩ := same (iI b)
        exact ⟨lc1, _, lm', e1', s2, Or.inr ⟨rfl, iI b, lc', r, L', cc, s1, s3, s4⟩⟩
      | none =>
        rw [hA] at cc
        have nb := best_none F hA
        have bal : best false (fun i => L i && decide (-7 ≤ atI am 5 i ∧ atI am 5 i ≤ 7)) (atI am 5) F = best false (fun i => L i && decide (0 < -1 * (atI ac 5 i - v))) (atI ac 5) F := best_congr F (fun i hi => ⟨by
          show (L i && decide _) = (L i && decide _)
          rw [← hx i hi]
          have h1 : (L i && decide (0 < 1 * (atI ac 5 i - v))) = false := nb i hi
          cases hL : L i with
          | false => rfl
          | true =>
            rw [hL, Bool.true_and] at h1
            have h2 := of_decide_eq_false h1
            have h3 := hne i hi hL
            have := hok i hi
            congr 1; exact decide_eq_decide.mpr (by omega), (hx i hi).symm⟩)
        rw [bal] at m2'
        rw [if_pos (show iI ((none : Option Int).getD (v + 1 - 1)) = iI v from by show iI (v + 1 - 1) = _; congr 1; omega), if_pos q2, m2']
        simp only [Option.bind_some]
        cases hB : best false (fun i => L i && decide (0 < -1 * (atI ac 5 i - v))) (atI ac 5) F with
        | some b =>
          rw [hB] at cc
          obtain ⟨lc', r, lm', L', s1, s2, s3, s4⟩ := same (iI b)
          exact ⟨lc1, _, lm', e1', s2, Or.inr ⟨rfl, iI b, lc', r, L', cc, s1, s3, s4⟩⟩
        | none =>
          rw [hB] at cc
          obtain ⟨⟨lc', s1, s2⟩, -⟩ := nothing v (by omega) hne
          obtain ⟨-, ⟨lm', s3, s4⟩⟩ := nothing (-8) (by omega) (fun i hi _ => by have := hok i hi; omega)
          exact ⟨lc1, _, lm', e1', s3, Or.inr ⟨rfl, iI v, lc', 0, L, cc, s1, s2, s4⟩⟩
theorem ch_lay_c {N F : Nat} {o : ob_FontShelf} (g : Nat → Int32) (hN : 1000 < N) (hF : F ≤ 32) (ho : fd_FontShelf_fonts o = nI F) : ∃ g', lp_FontShelf_choose_39 o N 0 g = some g' ∧ lfR F (fun _ => true) g' := by
  have lp : ∀ (m fu k : Nat) (g : Nat → Int32), 32 - k = m → m < fu → k ≤ 32 → (∀ i, i < k → i < F → g i = 1) → ∃ g', lp_FontShelf_choose_39 o fu (nI k) g = some g' ∧ lfR F (fun _ => true) g' := by
    intro m
    induction m with
    | zero =>
      intro fu k g hm hf hk hg
      obtain ⟨fu, rfl⟩ : ∃ z, fu = z + 1 := ⟨fu - 1, by omega⟩
      refine ⟨g, ?_, fun i hi => hg i (by omega) hi⟩
      rw [lp_FontShelf_choose_39, if_pos (show (32 : Int32) ≤ nI k from nI_le (a := 32) (by omega) (by omega))]
    | succ m ih =>
      intro fu k g hm hf hk hg
      obtain ⟨fu, rfl⟩ : ∃ z, fu = z + 1 := ⟨fu - 1, by omega⟩
      have hcl : (nI k).toNatClampNeg = k := nI_clamp (by omega)
      have i32 : dk_in (nI k) 32 := dk_in_nI (by omega) (by omega)
      rw [lp_FontShelf_choose_39, if_neg (show ¬ (32 : Int32) ≤ nI k from nI_ge (b := 32) (by omega) (by omega)), if_pos i32, if_pos i32, nI_1, hcl, ho]
      simp only [dk_let]
      by_cases q : F ≤ k
      · rw [if_pos (nI_le q (by omega))]
        exact ih fu (k + 1) _ (by omega) (by omega) (by omega) (fun i h1 h2 => by rw [pk_un (by omega)]; exact hg i (by omega) h2)
      · rw [if_neg (nI_ge (by omega) (by omega))]
        exact ih fu (k + 1) _ (by omega) (by omega) (by omega) (fun i h1 h2 => by
          by_cases qi : i = k
          · subst qi; rw [pk_us]
          · rw [pk_un qi]; exact hg i (by omega) h2)
  exact lp 32 N 0 g rfl (by omega) (by omega) (fun i h => by omega)
theorem ch_lay_m {N F : Nat} {o : ob_mShelf} (g : Nat → Int32) (hN : 1000 < N) (hF : F ≤ 32) (ho : fd_mShelf_fonts o = nI F) : ∃ g', lp_mShelf_choose_39k10 o N 0 g = some g' ∧ lfR F (fun _ => true) g' := by
  have lp : ∀ (m fu k : Nat) (g : Nat → Int32), F - k = m → m < fu → k ≤ F → (∀ i, i < k → g i = 1) → ∃ g', lp_mShelf_choose_39k10 o fu (nI k) g = some g' ∧ lfR F (fun _ => true) g' := by
    intro m
    induction m with
    | zero =>
      intro fu k g hm hf hk hg
      obtain ⟨fu, rfl⟩ : ∃ z, fu = z + 1 := ⟨fu - 1, by omega⟩
      refine ⟨g, ?_, fun i hi => hg i (by omega)⟩
      rw [lp_mShelf_choose_39k10, ho, if_pos (nI_le (show F ≤ k by omega) (by omega))]
    | succ m ih =>
      intro fu k g hm hf hk hg
      obtain ⟨fu, rfl⟩ : ∃ z, fu = z + 1 := ⟨fu - 1, by omega⟩
      have hcl : (nI k).toNatClampNeg = k := nI_clamp (by omega)
      have i32 : dk_in (nI k) 32 := dk_in_nI (by omega) (by omega)
      rw [lp_mShelf_choose_39k10, ho, if_neg (nI_ge (show k < F by omega) (by omega)), if_pos i32, nI_1, hcl]
      simp only [dk_let]
      exact ih fu (k + 1) _ (by omega) (by omega) (by omega) (fun i h1 => by
          by_cases qi : i = k
          · subst qi; rw [pk_us]
          · rw [pk_un qi]; exact hg i (by omega))
  exact lp F N 0 g rfl (by omega) (by omega) (fun i h => by omega)
theorem okA_at {F a : Nat} {ac : Nat → Int32} {lo hi : Int} (h : ∀ f a, f < F → a < 7 → okA a (ac (7 * f + a))) (ha : a < 7) (h1 : ∀ x : Int32, okA a x → lo ≤ x.toInt ∧ x.toInt ≤ hi) : ∀ i, i < F → lo ≤ atI ac a i ∧ atI ac a i ≤ hi := fun i hi => h1 _ (h i a hi ha)
theorem okA_1 (x : Int32) (h : okA 1 x) : 0 ≤ x.toInt ∧ x.toInt ≤ 1 := h
theorem okA_2 (x : Int32) (h : okA 2 x) : 1 ≤ x.toInt ∧ x.toInt ≤ 57600 := h
theorem okA_3 (x : Int32) (h : okA 3 x) : 1 ≤ x.toInt ∧ x.toInt ≤ 99999 := h
theorem okA_5 (x : Int32) (h : okA 5 x) : -7 ≤ x.toInt ∧ x.toInt ≤ 7 := h
theorem ch_ix (w a : Nat) : nI w * 7 + nI a = nI (7 * w + a) := by have h9 := nI_mul w 7; rw [Nat.mul_comm] at h9; rw [show nI w * 7 = nI (7 * w) from h9, nI_add]
theorem ch_ix' (w a : Nat) : 7 * nI w + nI a = nI (7 * w + a) := by rw [nI_Lmul, nI_add]
/-- what both take of a wish -/
theorem ch_wish {w a : Nat} {wc wm : Nat → Int32} (hw : w < 2) (ha : a < 7) (h : agree 14 wc wm) : dk_in (nI w * 7 + nI a) 14 ∧ dk_in (7 * nI w + nI a) 14 ∧ wc (nI w * 7 + nI a).toNatClampNeg = iI (wc (7 * w + a)).toInt ∧ wm (7 * nI w + nI a).toNatClampNeg = iI (wc (7 * w + a)).toInt := by
  rw [ch_ix, ch_ix', nI_clamp (by omega), ← h _ (by omega)]
  exact ⟨dk_in_nI (by omega) (by omega), dk_in_nI (by omega) (by omega), iI_of _, iI_of _⟩
/-- the end of a choice: weight, face, the last one left -/
theorem ch_end {N F w : Nat} {o : ob_FontShelf} {om : ob_mShelf} {ac am pc pm wc wm lc lm : Nat → Int32} {L : Nat → Bool} (hN : 1000 < N) (hw : w < 2) (hF : F ≤ 32) (ho : fd_FontShelf_fonts o = nI F) (hm : fd_mShelf_fonts om = nI F) (hat : agree (7 * F) ac am) (hp : agree F pc pm) (hok : ∀ f a, f < F → a < 7 → okA a (ac (7 * f + a))) (hwa : agree 14 wc wm) (hwo : ∀ a, a < 7 → okA a (wc (7 * w + a))) (hl : lfR F L lc) (hl2 : lfR F L lm) :
    ∃ lc' lm' z, jn_FontShelf_choose_151d3 N o wc ac pc (nI w) lc = some (lc', z) ∧ jn_mShelf_choose_135m12 N om 14 wm am pm (nI w) lm = some (lm', z) ∧ (z = -1 ∨ ∃ s, s < F ∧ z = nI s) := by
  obtain ⟨a3, b3, c3, d3⟩ := ch_wish (a := 3) hw (by omega) hwa
  obtain ⟨a4, b4, c4, d4⟩ := ch_wish (a := 4) hw (by omega) hwa
  obtain ⟨a5, b5, c5, d5⟩ := ch_wish (a := 5) hw (by omega) hwa
  obtain ⟨a6, b6, c6, d6⟩ := ch_wish (a := 6) hw (by omega) hwa
  have o3 := okA_3 _ (hwo 3 (by omega))
  have o5 := okA_5 _ (hwo 5 (by omega))
  obtain ⟨hh, lc1, r1, lm1, L1, h1, h2, h3, h4, h5⟩ := sl_height (N := N) hN hF ho hm hat (okA_at hok (by omega) okA_3) o3 hl hl2
  obtain ⟨lc2, lm2, s1, s2, s3, s4⟩ := sl_strike (N := N) (a := 4) (v := iI (wc (7 * w + 4)).toInt) hN hF (by omega) ho hm hat h4 h5
  have s1' : ex_FontShelf_keepThose N o lc1 ac 4 (iI (wc (7 * w + 4)).toInt) = _ := s1
  have s2' : ex_mShelf_strike N om lm1 am 4 (iI (wc (7 * w + 4)).toInt) = _ := s2
  obtain ⟨lc3, r3, lm3, w1, w2, w3⟩ := sl_weight (N := N) hN hF ho hm hat (okA_at hok (by omega) okA_5) o5 s3 s4
  have fin : ∀ (lcx : Nat → Int32) (L' : Nat → Bool), lfR F L' lcx → lfR F L' lm3 → ∃ lc' lm' z, jn_FontShelf_choose_217e4 N o wc ac pc (nI w) lcx = some (lc', z) ∧ (if dk_in ((7 * nI w) + 6) 14 then ((ex_mShelf_strike N om lm3 am (6 : Int32) (wm ((7 * nI w) + 6).toNatClampNeg)).bind (fun u_313 => (lp_mShelf_choose_200n13 om pm u_313 N (0 : Int32) ((-1) : Int32) ((-1) : Int32)).bind (fun out_331 => if (0 : Int32) ≤ out_331.1 then (jn_mShelf_choose_275r17 u_313 out_331.1) else (jn_mShelf_choose_275r17 u_313 out_331.2)))) else none) = some (lm', z) ∧ (z = -1 ∨ ∃ s, s < F ∧ z = nI s) := fun lcx L' q1 q2 => by
    obtain ⟨lc4, lm4, f1, f2, f3, f4⟩ := sl_strike (N := N) (a := 6) (v := iI (wc (7 * w + 6)).toInt) hN hF (by omega) ho hm hat q1 q2
    have f1' : ex_FontShelf_keepThose N o lcx ac 6 (iI (wc (7 * w + 6)).toInt) = _ := f1
    have f2' : ex_mShelf_strike N om lm3 am 6 (iI (wc (7 * w + 6)).toInt) = _ := f2
    obtain ⟨z, g1, g2, g3⟩ := sl_last (N := N) (r := nI (anyL L' (fun i => decide (ac (7 * i + 6) = iI (wc (7 * w + 6)).toInt)) F).toNat) hN hF ho hm hp f3 f4
    refine ⟨lc4, lm4, z, ?_, ?_, g3⟩
    · unfold jn_FontShelf_choose_217e4
      have a6' : dk_in (nI w * 7 + 6) 14 := a6
      have c6' : wc (nI w * 7 + 6).toNatClampNeg = _ := c6
      rw [if_pos a6', c6', f1']
      simp only [Option.bind_some]
      rw [g1]; rfl
    · have b6' : dk_in (7 * nI w + 6) 14 := b6
      have d6' : wm (7 * nI w + 6).toNatClampNeg = _ := d6
      rw [if_pos b6', d6', f2']
      exact g2
  have A3 : dk_in (nI w * 7 + 3) 14 := a3
  have C3 : wc (nI w * 7 + 3).toNatClampNeg = _ := c3
  have B3 : dk_in (7 * nI w + 3) 14 := b3
  have D3 : wm (7 * nI w + 3).toNatClampNeg = _ := d3
  have A4 : dk_in (nI w * 7 + 4) 14 := a4
  have C4 : wc (nI w * 7 + 4).toNatClampNeg = _ := c4
  have B4 : dk_in (7 * nI w + 4) 14 := b4
  have D4 : wm (7 * nI w + 4).toNatClampNeg = _ := d4
  have A5 : dk_in (nI w * 7 + 5) 14 := a5
  have C5 : wc (nI w * 7 + 5).toNatClampNeg = _ := c5
  have B5 : dk_in (7 * nI w + 5) 14 := b5
  have D5 : wm (7 * nI w + 5).toNatClampNeg = _ := d5
  unfold jn_FontShelf_choose_151d3 jn_mShelf_choose_135m12
  rw [if_pos A3, if_pos B3, C3, D3, h1, h3]
  simp only [Option.bind_some]
  rw [h2]
  simp only [Option.bind_some]
  rw [if_pos A4, if_pos B4, C4, D4, s1', s2']
  simp only [Option.bind_some]
  rw [if_pos A5, if_pos B5, C5, D5, w1, w2]
  simp only [Option.bind_some]
  rcases w3 with ⟨r0, L', q1, q2⟩ | ⟨r0, hh', lc4, r4, L', t1, t2, t3, t4⟩
  · rw [if_neg r0]
    exact fin lc3 L' q1 q2
  · rw [if_pos r0, if_pos A5, t1]
    simp only [Option.bind_some]
    rw [t2]
    exact fin lc4 L' t3 t4
theorem ch_tail {N F w : Nat} {o : ob_FontShelf} {om : ob_mShelf} {ac am pc pm wc wm lc lm : Nat → Int32} {L : Nat → Bool} (hN : 1000 < N) (hw : w < 2) (hF : F ≤ 32) (ho : fd_FontShelf_fonts o = nI F) (hm : fd_mShelf_fonts om = nI F) (hat : agree (7 * F) ac am) (hp : agree F pc pm) (hok : ∀ f a, f < F → a < 7 → okA a (ac (7 * f + a))) (hwa : agree 14 wc wm) (hwo : ∀ a, a < 7 → okA a (wc (7 * w + a))) (hl : lfR F L lc) (hl2 : lfR F L lm) :
    ∃ lc' lm' z, jn_FontShelf_choose_101c2 N o wc ac pc (nI w) lc = some (lc', z) ∧ (∀ sk, jn_mShelf_choose_95l11 N om 14 wm am pm (nI w) sk lm = some (lm', z)) ∧ (z = -1 ∨ ∃ s, s < F ∧ z = nI s) := by
  obtain ⟨a1, b1, c1, d1⟩ := ch_wish (a := 1) hw (by omega) hwa
  obtain ⟨a2, b2, c2, d2⟩ := ch_wish (a := 2) hw (by omega) hwa
  have A1 : dk_in (nI w * 7 + 1) 14 := a1
  have C1 : wc (nI w * 7 + 1).toNatClampNeg = _ := c1
  have B1 : dk_in (7 * nI w + 1) 14 := b1
  have D1 : wm (7 * nI w + 1).toNatClampNeg = _ := d1
  have A2 : dk_in (nI w * 7 + 2) 14 := a2
  have C2 : wc (nI w * 7 + 2).toNatClampNeg = _ := c2
  have B2 : dk_in (7 * nI w + 2) 14 := b2
  have D2 : wm (7 * nI w + 2).toNatClampNeg = _ := d2
  have o2 := okA_2 _ (hwo 2 (by omega))
  obtain ⟨lc1, lm1, s1, s2, s3, s4⟩ := sl_strike (N := N) (a := 1) (v := iI (wc (7 * w + 1)).toInt) hN hF (by omega) ho hm hat hl hl2
  have s1' : ex_FontShelf_keepThose N o lc ac 1 (iI (wc (7 * w + 1)).toInt) = _ := s1
  have s2' : ex_mShelf_strike N om lm am 1 (iI (wc (7 * w + 1)).toInt) = _ := s2
  have rest := fun (lcx lmx : Nat → Int32) (L' : Nat → Bool) (q1 : lfR F L' lcx) (q2 : lfR F L' lmx) => ch_end (N := N) hN hw hF ho hm hat hp hok hwa hwo q1 q2
  by_cases q : iI (wc (7 * w + 1)).toInt = 0
  · rcases sl_pitch (N := N) (o := o) (om := om) hN hF ho hm hat (okA_at hok (by omega) okA_2) (okA_at hok (by omega) okA_1) o2 s3 s4 with ⟨p1, p2⟩ | ⟨p1, hh, lc2, r2, lm2, L2, p2, p3, p4, p5, p6⟩
    · obtain ⟨lc', lm', z, e1, e2, e3⟩ := rest lc1 lm1 _ s3 s4
      refine ⟨lc', lm', z, ?_, fun sk => ?_, e3⟩
      · unfold jn_FontShelf_choose_101c2
        rw [if_pos A1, C1, s1']
        simp only [Option.bind_some]
        rw [if_pos A1, if_pos q, p1]
        exact e1
      · unfold jn_mShelf_choose_95l11
        rw [if_pos B1, D1, s2']
        simp only [Option.bind_some]
        rw [if_pos B1, if_pos q, if_pos B2, D2, p2]
        exact e2
    · obtain ⟨lc', lm', z, e1, e2, e3⟩ := rest lc2 lm2 _ p5 p6
      refine ⟨lc', lm', z, ?_, fun sk => ?_, e3⟩
      · unfold jn_FontShelf_choose_101c2
        rw [if_pos A1, C1, s1']
        simp only [Option.bind_some]
        rw [if_pos A1, if_pos q, p1]
        simp only [Option.bind_some]
        rw [if_neg (show ¬ (1 : Int32) = 0 by decide), if_pos A2, C2, p2]
        simp only [Option.bind_some]
        rw [p3]
        exact e1
      · unfold jn_mShelf_choose_95l11
        rw [if_pos B1, D1, s2']
        simp only [Option.bind_some]
        rw [if_pos B1, if_pos q, if_pos B2, D2, p4]
        exact e2
  · obtain ⟨lc', lm', z, e1, e2, e3⟩ := rest lc1 lm1 _ s3 s4
    refine ⟨lc', lm', z, ?_, fun sk => ?_, e3⟩
    · unfold jn_FontShelf_choose_101c2
      rw [if_pos A1, C1, s1']
      simp only [Option.bind_some]
      rw [if_pos A1, if_neg q]
      exact e1
    · unfold jn_mShelf_choose_95l11
      rw [if_pos B1, D1, s2']
      simp only [Option.bind_some]
      rw [if_pos B1, if_neg q]
      exact e2
/-- the choice of a font, alike -/
theorem sl_choose {N F n u w : Nat} {o : ob_FontShelf} {om : ob_mShelf} {ic pc ac gg gdt im pm am gm gst wc pnc wm pnm : Nat → Int32} (lc lm : Nat → Int32) (hN : 1000 < N) (hw : w < 2) (hK : slK F n u ic pc ac gg gdt im pm am gm gst) (ho : fd_FontShelf_fonts o = nI F) (hm : fd_mShelf_fonts om = nI F) (h : wsR wc pnc wm pnm) :
    ∃ lc' lm' z, ex_FontShelf_choose N o pnc ic lc wc ac pc (nI w) = some (lc', z) ∧ ex_mShelf_choose N om 2 pnm im lm 14 wm am pm (nI w) = some (lm', z) ∧ (z = -1 ∨ ∃ s, s < F ∧ z = nI s) := by
  obtain ⟨k1, k2, k3, k4, k5, k6, k7, k8, k9, k10, k11, k12⟩ := hK
  have hK : slK F n u ic pc ac gg gdt im pm am gm gst := ⟨k1, k2, k3, k4, k5, k6, k7, k8, k9, k10, k11, k12⟩
  obtain ⟨h1, h2, h3, h4⟩ := h
  have i2 : dk_in (nI w) 2 := dk_in_nI hw (by omega)
  have c2 : (nI w).toNatClampNeg = w := nI_clamp (by omega)
  obtain ⟨a0, b0, c0, d0⟩ := ch_wish (a := 0) hw (by omega) h1
  have A0 : dk_in (nI w * 7 + 0) 14 := a0
  have C0 : wc (nI w * 7 + 0).toNatClampNeg = _ := c0
  have e0 : 7 * nI w = 7 * nI w + nI 0 := by rw [ch_ix', nI_Lmul]; rfl
  have B0 : dk_in (7 * nI w) 14 := by rw [e0]; exact b0
  have D0 : wm (7 * nI w).toNatClampNeg = iI (wc (7 * w + 0)).toInt := by rw [e0]; exact d0
  obtain ⟨g1, y1, y2⟩ := ch_lay_c (N := N) lc hN k1 ho
  obtain ⟨g2, y3, y4⟩ := ch_lay_m (N := N) lm hN k1 hm
  obtain ⟨lc1, lm1, s1, s2, s3, s4⟩ := sl_strike (N := N) (a := 0) (v := iI (wc (7 * w + 0)).toInt) hN k1 (by omega) ho hm k5 y2 y4
  have s1' : ex_FontShelf_keepThose N o g1 ac 0 (iI (wc (7 * w + 0)).toInt) = _ := s1
  have s2' : ex_mShelf_strike N om g2 am 0 (iI (wc (7 * w + 0)).toInt) = _ := s2
  -- the long way, of both sides
  have main : ∃ lc' lm' z, ((lp_FontShelf_choose_39 o N (0 : Int32) lc).bind (fun out_15 => if dk_in ((nI w * 7) + 0) 14 then ((ex_FontShelf_keepThose N o out_15 ac (0 : Int32) (wc ((nI w * 7) + 0).toNatClampNeg)).bind (fun u_21 => if u_21.2 = (0 : Int32) then ((ex_FontShelf_keepThose N o u_21.1 ac (0 : Int32) (277 : Int32)).bind (fun u_91 => jn_FontShelf_choose_101c2 N o wc ac pc (nI w) u_91.1)) else (jn_FontShelf_choose_101c2 N o wc ac pc (nI w) u_21.1))) else none)) = some (lc', z) ∧ jn_mShelf_choose_23 N om lm 14 wm am pm (nI w) (-1) = some (lm', z) ∧ (z = -1 ∨ ∃ s, s < F ∧ z = nI s) := by
    have rest := fun (lcx lmx : Nat → Int32) (L' : Nat → Bool) (q1 : lfR F L' lcx) (q2 : lfR F L' lmx) => ch_tail (N := N) hN hw k1 ho hm k5 k3 k6 h1 (fun a ha => h3 w a hw ha) q1 q2
    have key : ∃ lc' lm' z, ((lp_FontShelf_choose_39 o N (0 : Int32) lc).bind (fun out_15 => if dk_in ((nI w * 7) + 0) 14 then ((ex_FontShelf_keepThose N o out_15 ac (0 : Int32) (wc ((nI w * 7) + 0).toNatClampNeg)).bind (fun u_21 => if u_21.2 = (0 : Int32) then ((ex_FontShelf_keepThose N o u_21.1 ac (0 : Int32) (277 : Int32)).bind (fun u_91 => jn_FontShelf_choose_101c2 N o wc ac pc (nI w) u_91.1)) else (jn_FontShelf_choose_101c2 N o wc ac pc (nI w) u_21.1))) else none)) = some (lc', z) ∧ ((lp_mShelf_choose_39k10 om N (0 : Int32) lm).bind (fun out_278 => if dk_in (7 * nI w) 14 then ((ex_mShelf_strike N om out_278 am (0 : Int32) (wm (7 * nI w).toNatClampNeg)).bind (fun u_282 => if u_282.2 = (0 : Int32) then ((ex_mShelf_strike N om u_282.1 am (0 : Int32) (277 : Int32)).bind (fun u_348 => if u_348.2 = (0 : Int32) then (jn_mShelf_choose_95l11 N om 14 wm am pm (nI w) (0 : Int32) u_348.1) else (jn_mShelf_choose_90s18 N om 14 wm am pm (nI w) u_348.1))) else (jn_mShelf_choose_90s18 N om 14 wm am pm (nI w) u_282.1))) else none)) = some (lm', z) ∧ (z = -1 ∨ ∃ s, s < F ∧ z = nI s) := by
      rw [y1, y3]
      simp only [Option.bind_some]
      rw [if_pos A0, if_pos B0, C0, D0, s1', s2']
      simp only [Option.bind_some]
      by_cases q : nI (anyL (fun _ => true) (fun i => decide (ac (7 * i + 0) = iI (wc (7 * w + 0)).toInt)) F).toNat = 0
      · rw [if_pos q, if_pos q]
        obtain ⟨lc2, lm2, t1, t2, t3, t4⟩ := sl_strike (N := N) (a := 0) (v := 277) hN k1 (by omega) ho hm k5 s3 s4
        have t1' : ex_FontShelf_keepThose N o lc1 ac 0 277 = _ := t1
        have t2' : ex_mShelf_strike N om lm1 am 0 277 = _ := t2
        obtain ⟨lc', lm', z, e1, e2, e3⟩ := rest lc2 lm2 _ t3 t4
        refine ⟨lc', lm', z, ?_, ?_, e3⟩
        · rw [t1']; exact e1
        · rw [t2']
          simp only [Option.bind_some]
          unfold jn_mShelf_choose_90s18
          rw [e2, e2, ite_self]
      · rw [if_neg q, if_neg q]
        obtain ⟨lc', lm', z, e1, e2, e3⟩ := rest lc1 lm1 _ s3 s4
        exact ⟨lc', lm', z, e1, e2 1, e3⟩
    obtain ⟨lc', lm', z, e1, e2, e3⟩ := key
    unfold jn_mShelf_choose_23
    rw [if_neg (show ¬ (0 : Int32) ≤ -1 by decide), hm]
    by_cases q : F = 0
    · have hz : z = -1 := by
        rcases e3 with h | ⟨s, hs, _⟩
        · exact h
        · omega
      subst hz
      rw [if_pos (show nI F = 0 by rw [q]; rfl)]
      exact ⟨lc', lm, -1, e1, rfl, Or.inl rfl⟩
    · rw [if_neg (show ¬ nI F = 0 from fun hh => by
        have h9 : (nI F).toNatClampNeg = 0 := by rw [hh]; rfl
        rw [nI_clamp (by omega)] at h9; omega)]
      exact ⟨lc', lm', z, e1, e2, e3⟩
  unfold ex_FontShelf_choose ex_mShelf_choose
  rw [if_pos i2, if_pos i2, if_pos i2, if_pos i2, c2, ← h2 w hw]
  rcases h4 w hw with hp | ⟨i, hi, hp⟩
  · rw [hp, if_pos rfl, if_neg (show ¬ (0 : Int32) ≤ -1 by decide)]
    exact main
  · have n1 : ¬ nI i = -1 := fun hh => absurd (hh ▸ (show ¬ nI i < 0 from nI_pos (by omega))) (by decide)
    rw [hp, if_neg n1, if_pos (show (0 : Int32) ≤ nI i from nI_le (a := 0) (by omega) (by omega))]
    rcases sl_slot (N := N) (o := o) (om := om) (nI i) hN hK ho hm with ⟨s, hs1, hs2, hs3, hs4⟩ | ⟨hno, hs3, hs4⟩
    · rw [hs3, hs4]
      simp only [Option.bind_some]
      rw [if_neg (nI_pos (by omega))]
      refine ⟨lc, lm, nI s, rfl, ?_, Or.inr ⟨s, hs1, rfl⟩⟩
      unfold jn_mShelf_choose_23
      rw [if_pos (show (0 : Int32) ≤ nI s from nI_le (a := 0) (by omega) (by omega))]; rfl
    · rw [hs3, hs4]
      simp only [Option.bind_some]
      rw [if_pos (show (-1 : Int32) < 0 by decide)]
      exact main
/-- what the class keeps of the choice -/
def chM (N F : Nat) (pnm im wm am pm ch : Nat → Int32) : Prop := ∀ w, w < 2 → (ch w = -1 ∨ ∃ s, s < F ∧ ch w = nI s) ∧ ∀ (om : ob_mShelf) (lm : Nat → Int32), fd_mShelf_fonts om = nI F → ∃ lm', ex_mShelf_choose N om 2 pnm im lm 14 wm am pm (nI w) = some (lm', ch w)
theorem sl_settle {N F n u : Nat} {o : ob_FontShelf} {ic pc ac gg gdt im pm am gm gst wc pnc wm pnm ch : Nat → Int32} (lc : Nat → Int32) (hN : 1000 < N) (hK : slK F n u ic pc ac gg gdt im pm am gm gst) (ho : fd_FontShelf_fonts o = nI F) (h : wsR wc pnc wm pnm) (hk : fd_FontShelf_chosenKnown o = 0 ∨ (fd_FontShelf_chosenKnown o = 1 ∧ chM N F pnm im wm am pm ch)) :
    ∃ o' ch' lc', ex_FontShelf_settle N o ch ic ac pc wc pnc lc = some (o', ch', lc') ∧ chM N F pnm im wm am pm ch' ∧ fd_FontShelf_chosenKnown o' = 1 ∧ (o' = o ∨ o' = fs_FontShelf_chosenKnown o 1) := by
  unfold ex_FontShelf_settle
  rcases hk with hk | ⟨hk, hc⟩
  · rw [if_pos hk]
    have hF := hK.1
    obtain ⟨om0, hom0⟩ : ∃ om : ob_mShelf, fd_mShelf_fonts om = nI F := ⟨fs_mShelf_fonts (0, 0, 0, 0, 0, 0, 0, 0, 0) (nI F), rfl⟩
    obtain ⟨l0, _, z0, e0, _, z0'⟩ := sl_choose (N := N) (w := 0) (om := om0) lc lc hN (by omega) hK ho hom0 h
    obtain ⟨l1, _, z1, e1, _, z1'⟩ := sl_choose (N := N) (w := 1) (om := om0) l0 lc hN (by omega) hK ho hom0 h
    have e0' : ex_FontShelf_choose N o pnc ic lc wc ac pc 0 = _ := e0
    have e1' : ex_FontShelf_choose N o pnc ic l0 wc ac pc 1 = _ := e1
    rw [e0']
    simp only [Option.bind_some, dk_let]
    rw [e1']
    refine ⟨fs_FontShelf_chosenKnown o 1, upd (upd ch 0 z0) 1 z1, l1, rfl, ?_, rfl, Or.inr rfl⟩
    intro w hw
    have : w = 0 ∨ w = 1 := by omega
    rcases this with rfl | rfl
    · have hq : upd (upd ch 0 z0) 1 z1 0 = z0 := by rw [pk_un (by omega), pk_us]
      rw [hq]
      refine ⟨z0', fun om lm hom => ?_⟩
      obtain ⟨_, lm', z, f1, f2, _⟩ := sl_choose (N := N) (w := 0) (om := om) lc lm hN (by omega) hK ho hom h
      rw [e0] at f1
      have hz : z0 = z := congrArg Prod.snd (Option.some.inj f1)
      rw [hz]; exact ⟨lm', f2⟩
    · have hq : upd (upd ch 0 z0) 1 z1 1 = z1 := pk_us
      rw [hq]
      refine ⟨z1', fun om lm hom => ?_⟩
      obtain ⟨_, lm', z, f1, f2, _⟩ := sl_choose (N := N) (w := 1) (om := om) l0 lm hN (by omega) hK ho hom h
      rw [e1] at f1
      have hz : z1 = z := congrArg Prod.snd (Option.some.inj f1)
      rw [hz]; exact ⟨lm', f2⟩
  · rw [if_neg (by rw [hk]; decide)]
    exact ⟨o, ch, lc, rfl, hc, hk, Or.inl rfl⟩
/-- a character's glyph and step, by what is chosen -/
theorem sl_use {N F n u w b : Nat} {o : ob_FontShelf} {om : ob_mShelf} {ic pc ac gg gdt im pm am gm gst wm pnm ch : Nat → Int32} (lm : Nat → Int32) (hN : 1000 < N) (hw : w < 2) (hK : slK F n u ic pc ac gg gdt im pm am gm gst) (o2 : fd_FontShelf_glyphCount o = nI n) (m1 : fd_mShelf_fonts om = nI F) (m2 : fd_mShelf_glyphs om = nI n) (hc : chM N F pnm im wm am pm ch) :
    (ex_FontShelf_glyphFor N o ic ch gg (nI w) (nI b) = some (-1) ∧ (∀ v, ex_FontShelf_stepOf N o ic ch ac gg (nI w) (nI b) v = some v) ∧ ∃ lm', ex_mShelf_chosenGlyph N om im am pm 14 wm 2 pnm lm gm (nI w) (nI b) = some (lm', -1)) ∨
    ∃ c e s lm' st, c < n ∧ e < n ∧ s < F ∧ recC gg gdt c = recM gm gst e ∧ st ≤ 32767 ∧ gm (7 * e + 6) = nI st ∧ ex_FontShelf_glyphFor N o ic ch gg (nI w) (nI b) = some (nI c) ∧ ex_mShelf_chosenGlyph N om im am pm 14 wm 2 pnm lm gm (nI w) (nI b) = some (lm', nI e) ∧ (∃ lm2, ex_mShelf_choose N om 2 pnm im lm' 14 wm am pm (nI w) = some (lm2, nI s)) ∧ (∀ v, ex_FontShelf_stepOf N o ic ch ac gg (nI w) (nI b) v = some (if am (7 * s + 1) = 1 then nI (min st 20000) else v)) := by
  obtain ⟨hz, hch⟩ := hc w hw
  have k1 := hK.1
  have k2 := hK.2.1
  have k5 := hK.2.2.2.2.1
  have kC := hK.2.2.2.2.2.2.2.1
  have kM := hK.2.2.2.2.2.2.2.2.1
  obtain ⟨lm1, f1⟩ := hch om lm m1
  have cl : (nI w).toNatClampNeg = w := nI_clamp (by omega)
  have slot : ex_FontShelf_chosenSlot N o ic ch (nI w) = some (ch w) := by
    unfold ex_FontShelf_chosenSlot
    rw [if_neg (nI_pos (by omega)), if_neg (show ¬ (2 : Int32) ≤ nI w from nI_ge (b := 2) hw (by omega)), if_pos (dk_in_nI hw (by omega)), cl]
    rcases hz with h | ⟨s, hs, h⟩
    · rw [h]; exact if_neg (by decide)
    · rw [h]; exact if_neg (show ¬ (32 : Int32) ≤ nI s from nI_ge (b := 32) (by omega) (by omega))
  unfold ex_FontShelf_glyphFor ex_mShelf_chosenGlyph
  rw [slot, f1]
  simp only [Option.bind_some]
  rcases hz with h | ⟨s, hs, h⟩
  · left
    rw [h, if_pos (show (-1 : Int32) < 0 by decide), if_neg (show ¬ (0 : Int32) ≤ -1 by decide)]
    refine ⟨rfl, fun v => ?_, lm1, rfl⟩
    unfold ex_FontShelf_stepOf
    rw [slot]
    simp only [Option.bind_some]
    rw [h]; exact if_pos (by decide)
  · have n0 : ¬ nI s < 0 := nI_pos (by omega)
    have cs : (nI s).toNatClampNeg = s := nI_clamp (by omega)
    have is2 : dk_in (nI s) 32 := dk_in_nI (by omega) (by omega)
    rw [h, if_neg n0, if_pos is2, if_pos (show (0 : Int32) ≤ nI s from nI_le (a := 0) (by omega) (by omega)), if_pos (dk_in_nI (show s < 33 by omega) (by omega)), cs, ← k2 s hs]
    rcases sl_glyph (N := N) (o := o) (om := om) (ic s) (nI b) hN hK o2 m2 with ⟨c, e, g1, g2, g3, g4, g5, g6⟩ | ⟨g1, g2, g3, g4⟩
    · right
      obtain ⟨lf, tp, W, Dp, st, y1, y2⟩ := kM.2.2.2.2 e g2
      obtain ⟨z1, z2, z3, z4, z5⟩ := y1
      have hst : st ≤ 32767 := y2.2.2.2.2.2.2
      have hgc : gg (9 * c + 6) = nI st := by
        have := congrArg (fun z : gRec => z.2.2.2.2.2.2.1) g4
        exact this.trans z5
      have hn := kC.1.1
      rw [g5, g6]
      refine ⟨c, e, s, lm1, st, g1, g2, hs, g4, hst, z5, rfl, rfl, ?_, fun v => ?_⟩
      · obtain ⟨lm2, f2⟩ := hch om lm1 m1
        rw [h] at f2; exact ⟨lm2, f2⟩
      · unfold ex_FontShelf_stepOf
        rw [slot, h]
        simp only [Option.bind_some]
        rw [if_neg n0]
        have ha : ex_FontShelf_attribute N o ac (nI s) 1 = some (ac (7 * s + 1)) := fs_att (a := 1) (by omega) (by omega)
        rw [ha]
        simp only [Option.bind_some]
        rw [← k5 (7 * s + 1) (by omega)]
        by_cases q : ac (7 * s + 1) = 1
        · rw [if_pos q, if_pos q, if_pos is2, cs, g5]
          simp only [Option.bind_some]
          rw [if_neg (nI_pos (by omega))]
          have hog : ex_FontShelf_ofGlyph N o gg (nI c) 6 = some (gg (9 * c + 6)) := by
            unfold ex_FontShelf_ofGlyph
            have e9 : nI c * 9 + 6 = nI (9 * c + 6) := by have h9 := nI_mul c 9; rw [Nat.mul_comm] at h9; rw [show nI c * 9 = nI (9 * c) from h9]; exact nI_add _ 6
            rw [e9, if_neg (nI_pos (by omega)), if_neg (show ¬ (2304 : Int32) ≤ nI (9 * c + 6) from nI_ge (b := 2304) (by omega) (by omega)), if_pos (dk_in_nI (by omega) (by omega)), nI_clamp (by omega)]
          rw [hog]
          simp only [Option.bind_some]
          rw [hgc]
          by_cases q2 : st < 20000
          · rw [if_pos (show nI st < 20000 from nI_lt (b := 20000) q2 (by omega)), Nat.min_eq_left (by omega)]
          · rw [if_neg (show ¬ nI st < 20000 from nI_nlt (b := 20000) (by omega) (by omega)), Nat.min_eq_right (by omega)]; rfl
        · rw [if_neg q, if_neg q]
    · left
      rw [g3, g4]
      refine ⟨rfl, fun v => ?_, lm1, rfl⟩
      unfold ex_FontShelf_stepOf
      rw [slot, h]
      simp only [Option.bind_some]
      rw [if_neg n0]
      have ha : ex_FontShelf_attribute N o ac (nI s) 1 = some (ac (7 * s + 1)) := fs_att (a := 1) (by omega) (by omega)
      rw [ha]
      simp only [Option.bind_some]
      by_cases q : ac (7 * s + 1) = 1
      · rw [if_pos q, if_pos is2, cs, g3]
        simp only [Option.bind_some]
        rw [if_pos (show (-1 : Int32) < 0 by decide)]
      · rw [if_neg q]
/-- what status tells of a chosen font -/
theorem sl_chosen {N F n u w : Nat} {o : ob_FontShelf} {om : ob_mShelf} {ic pc ac gg gdt im pm am gm gst wm pnm ch : Nat → Int32} (lm : Nat → Int32) (hw : w < 2) (hK : slK F n u ic pc ac gg gdt im pm am gm gst) (m1 : fd_mShelf_fonts om = nI F) (hc : chM N F pnm im wm am pm ch) :
    ∃ lm' z, ex_FontShelf_chosenId N o ic ch (nI w) = some z ∧ ex_mShelf_chosen N om im am pm 14 wm 2 pnm lm (nI w) = some (fs_mShelf_thrown om 0, lm', z) := by
  obtain ⟨hz, hch⟩ := hc w hw
  have k1 := hK.1
  have k2 := hK.2.1
  obtain ⟨lm1, f1⟩ := hch (fs_mShelf_thrown om 0) lm m1
  have cl : (nI w).toNatClampNeg = w := nI_clamp (by omega)
  have slot : ex_FontShelf_chosenSlot N o ic ch (nI w) = some (ch w) := by
    unfold ex_FontShelf_chosenSlot
    rw [if_neg (nI_pos (by omega)), if_neg (show ¬ (2 : Int32) ≤ nI w from nI_ge (b := 2) hw (by omega)), if_pos (dk_in_nI hw (by omega)), cl]
    rcases hz with h | ⟨s, hs, h⟩
    · rw [h]; exact if_neg (by decide)
    · rw [h]; exact if_neg (show ¬ (32 : Int32) ≤ nI s from nI_ge (b := 32) (by omega) (by omega))
  unfold ex_FontShelf_chosenId ex_mShelf_chosen
  rw [slot]
  simp only [Option.bind_some]
  have fin : ∃ lm' z, (if ch w < (0 : Int32) then (some (-1)) else (if (32 : Int32) ≤ ch w then (some (-1)) else (if dk_in (ch w) 32 then (some (ic (ch w).toNatClampNeg)) else none))) = some z ∧ ((ex_mShelf_choose N (fs_mShelf_thrown om 0) 2 pnm im lm 14 wm am pm (nI w)).bind (fun u_1 => if (0 : Int32) ≤ u_1.2 then (if dk_in u_1.2 33 then (some (fs_mShelf_thrown om 0, u_1.1, im u_1.2.toNatClampNeg)) else none) else (some (fs_mShelf_thrown om 0, u_1.1, (-1))))) = some (fs_mShelf_thrown om 0, lm', z) := by
    rw [f1]
    simp only [Option.bind_some]
    rcases hz with h | ⟨s, hs, h⟩
    · rw [h, if_pos (show (-1 : Int32) < 0 by decide), if_neg (show ¬ (0 : Int32) ≤ -1 by decide)]
      exact ⟨lm1, -1, rfl, rfl⟩
    · have cs : (nI s).toNatClampNeg = s := nI_clamp (by omega)
      rw [h, if_neg (nI_pos (by omega)), if_neg (show ¬ (32 : Int32) ≤ nI s from nI_ge (b := 32) (by omega) (by omega)), if_pos (dk_in_nI (by omega) (by omega)), if_pos (show (0 : Int32) ≤ nI s from nI_le (a := 0) (by omega) (by omega)), if_pos (dk_in_nI (show s < 33 by omega) (by omega)), cs, ← k2 s hs]
      exact ⟨lm1, ic s, rfl, rfl⟩
  have : w = 0 ∨ w = 1 := by omega
  rcases this with rfl | rfl
  · rw [if_pos (show nI 0 = 0 from rfl)]; exact fin
  · rw [if_neg (show ¬ nI 1 = 0 by decide), if_pos (show nI 1 = 1 from rfl)]; exact fin
def fwN (a : Nat) : Int32 := tb_FontShelf_FIRST_WISH a
theorem fw_ok (a : Nat) (ha : a < 7) : okA a (fwN a) := by
  have : a = 0 ∨ a = 1 ∨ a = 2 ∨ a = 3 ∨ a = 4 ∨ a = 5 ∨ a = 6 := by omega
  rcases this with rfl | rfl | rfl | rfl | rfl | rfl | rfl <;> (unfold okA fwN; decide)
theorem ej_wish {N : Nat} (hN : 1000 < N) (g : Nat → Int32) : ∃ g', lp_FontShelf_endJob_6 N 0 g = some g' ∧ ∀ w a, w < 2 → a < 7 → g' (7 * w + a) = fwN a := by
  obtain ⟨g', e1, e2⟩ := lp_each (M := 14) lp_FontShelf_endJob_6 (fun k => fwN (k % 7)) (fun n k g hk => by
    rw [lp_FontShelf_endJob_6]
    by_cases q : 14 ≤ k
    · rw [if_pos (show (14 : Int32) ≤ nI k from nI_le (a := 14) q (by omega)), if_pos q]
    · have em : nI k - nI k / 7 * 7 = nI (k % 7) := by
        have : k = 0 ∨ k = 1 ∨ k = 2 ∨ k = 3 ∨ k = 4 ∨ k = 5 ∨ k = 6 ∨ k = 7 ∨ k = 8 ∨ k = 9 ∨ k = 10 ∨ k = 11 ∨ k = 12 ∨ k = 13 := by omega
        rcases this with rfl | rfl | rfl | rfl | rfl | rfl | rfl | rfl | rfl | rfl | rfl | rfl | rfl | rfl <;> decide
      have hcl : (nI k).toNatClampNeg = k := nI_clamp (by omega)
      rw [if_neg (show ¬ (14 : Int32) ≤ nI k from nI_ge (b := 14) (by omega) (by omega)), if_neg q, em, if_pos (dk_in_nI (by omega) (by omega)), if_pos (dk_in_nI (by omega) (by omega)), hcl, nI_1, nI_clamp (by omega)]
      rfl) 14 N 0 g rfl (by omega) (by omega)
  refine ⟨g', e1, fun w a hw ha => ?_⟩
  rw [e2, if_pos (by omega)]
  show fwN ((7 * w + a) % 7) = fwN a
  rw [show (7 * w + a) % 7 = a by omega]
theorem ej_pins {N : Nat} (hN : 1000 < N) (g : Nat → Int32) : ∃ g', ex_JArrays_fill1 N 2 g (-1) = some g' ∧ ∀ w, w < 2 → g' w = -1 := by
  obtain ⟨g', e1, e2⟩ := lp_each (M := 2) (lp_JArrays_fill1_5 2 (-1)) (fun _ => -1) (fun n k g hk => by
    rw [lp_JArrays_fill1_5]
    by_cases q : 2 ≤ k
    · rw [if_pos (nI_le q (by omega)), if_pos q]
    · rw [if_neg (nI_ge (show k < 2 by omega) (by omega)), if_neg q, if_pos (dk_in_nI (by omega) (by omega)), nI_clamp (by omega), nI_1]) 2 N 0 g rfl (by omega) (by omega)
  refine ⟨g', ?_, fun w hw => by rw [e2, if_pos (by omega)]⟩
  unfold ex_JArrays_fill1
  have e1' : lp_JArrays_fill1_5 2 (-1) N 0 g = some g' := e1
  rw [e1']; rfl
theorem rs_one {β : Type} {k : Nat} (hk : k < 7) (x : Int32) (g13 g14 : Nat → Int32) (K : (Nat → Int32) → (Nat → Int32) → Option β) : (if dk_in (nI k) 7 then (dk_let (upd g13 (nI k).toNatClampNeg x : Nat → Int32) (fun f => if dk_in (nI k) 7 then (if dk_in (nI k) 14 then (dk_let (upd g14 (nI k).toNatClampNeg (f (nI k).toNatClampNeg) : Nat → Int32) (fun f2 => if dk_in (nI k) 7 then (if dk_in (7 + nI k) 14 then (dk_let (upd f2 (7 + nI k).toNatClampNeg (f (nI k).toNatClampNeg) : Nat → Int32) (fun f3 => K f f3)) else none) else none)) else none) else none)) else none) = K (upd g13 k x) (upd (upd g14 k x) (7 + k) x) := by
  have e7 : 7 + nI k = nI (7 + k) := nI_add 7 k
  have i7 : dk_in (nI k) 7 := dk_in_nI hk (by omega)
  simp only [dk_let]
  rw [e7, if_pos i7, if_pos i7, if_pos (dk_in_nI (show k < 14 by omega) (by omega)), if_pos i7, if_pos (dk_in_nI (show 7 + k < 14 by omega) (by omega)), nI_clamp (show k < 2 ^ 31 by omega), nI_clamp (show 7 + k < 2 ^ 31 by omega), pk_us]
theorem rs_step {n k : Nat} (hk : k < 7) (g13 g14 : Nat → Int32) : lp_mShelf_restart_2 7 14 (n + 1) (nI k) g13 g14 = lp_mShelf_restart_2 7 14 n (nI (k + 1)) (upd g13 k (fwN k)) (upd (upd g14 k (fwN k)) (7 + k) (fwN k)) := by
  rw [lp_mShelf_restart_2, if_neg (show ¬ (7 : Int32) ≤ nI k from nI_ge (b := 7) hk (by omega)), nI_1]
  have : k = 0 ∨ k = 1 ∨ k = 2 ∨ k = 3 ∨ k = 4 ∨ k = 5 ∨ k = 6 := by omega
  rcases this with rfl | rfl | rfl | rfl | rfl | rfl | rfl
  · rw [if_pos (show nI 0 = 0 by decide)]; exact rs_one hk _ _ _ _
  · rw [if_neg (show ¬ nI 1 = 0 by decide), if_neg (show ¬ nI 1 = 2 by decide), if_neg (show ¬ nI 1 = 3 by decide), if_neg (show ¬ nI 1 = 6 by decide)]; exact rs_one hk _ _ _ _
  · rw [if_neg (show ¬ nI 2 = 0 by decide), if_pos (show nI 2 = 2 by decide)]; exact rs_one hk _ _ _ _
  · rw [if_neg (show ¬ nI 3 = 0 by decide), if_neg (show ¬ nI 3 = 2 by decide), if_pos (show nI 3 = 3 by decide)]; exact rs_one hk _ _ _ _
  · rw [if_neg (show ¬ nI 4 = 0 by decide), if_neg (show ¬ nI 4 = 2 by decide), if_neg (show ¬ nI 4 = 3 by decide), if_neg (show ¬ nI 4 = 6 by decide)]; exact rs_one hk _ _ _ _
  · rw [if_neg (show ¬ nI 5 = 0 by decide), if_neg (show ¬ nI 5 = 2 by decide), if_neg (show ¬ nI 5 = 3 by decide), if_neg (show ¬ nI 5 = 6 by decide)]; exact rs_one hk _ _ _ _
  · rw [if_neg (show ¬ nI 6 = 0 by decide), if_neg (show ¬ nI 6 = 2 by decide), if_neg (show ¬ nI 6 = 3 by decide), if_pos (show nI 6 = 6 by decide)]; exact rs_one hk _ _ _ _
theorem rs_loop : ∀ (m fu k : Nat) (g13 g14 : Nat → Int32), 7 - k = m → m < fu → k ≤ 7 → (∀ i, i < k → g14 i = fwN i ∧ g14 (7 + i) = fwN i) → ∃ d g, lp_mShelf_restart_2 7 14 fu (nI k) g13 g14 = some (d, g) ∧ ∀ i, i < 7 → g i = fwN i ∧ g (7 + i) = fwN i := by
  intro m
  induction m with
  | zero =>
    intro fu k g13 g14 hm hf hk hg
    obtain ⟨fu, rfl⟩ : ∃ z, fu = z + 1 := ⟨fu - 1, by omega⟩
    exact ⟨g13, g14, by rw [lp_mShelf_restart_2, if_pos (show (7 : Int32) ≤ nI k from nI_le (a := 7) (by omega) (by omega))], fun i hi => hg i (by omega)⟩
  | succ m ih =>
    intro fu k g13 g14 hm hf hk hg
    obtain ⟨fu, rfl⟩ : ∃ z, fu = z + 1 := ⟨fu - 1, by omega⟩
    rw [rs_step (by omega)]
    refine ih fu (k + 1) _ _ (by omega) (by omega) (by omega) (fun i hi => ?_)
    by_cases q : i = k
    · subst q
      exact ⟨by rw [pk_un (by omega), pk_us], by rw [pk_us]⟩
    · obtain ⟨h1, h2⟩ := hg i (by omega)
      exact ⟨by rw [pk_un (by omega), pk_un q]; exact h1, by rw [pk_un (by omega), pk_un (by omega)]; exact h2⟩
theorem sl_restart {N : Nat} {om : ob_mShelf} (hN : 1000 < N) (dr wm pnm : Nat → Int32) : ∃ d g p, ex_mShelf_restart N om 7 dr 14 wm 2 pnm = some (fs_mShelf_loading (fs_mShelf_code (fs_mShelf_id om 0) 0) 0, d, g, p) ∧ (∀ w a, w < 2 → a < 7 → g (7 * w + a) = fwN a) ∧ (∀ w, w < 2 → p w = -1) := by
  obtain ⟨d, g, e1, e2⟩ := rs_loop 7 N 0 dr wm rfl (by omega) (by omega) (fun i hi => by omega)
  have e1' : lp_mShelf_restart_2 7 14 N 0 dr wm = some (d, g) := e1
  refine ⟨d, g, upd (upd pnm 0 (-1)) 1 (-1), ?_, fun w a hw ha => ?_, fun w hw => ?_⟩
  · unfold ex_mShelf_restart
    rw [e1']
    simp only [Option.bind_some, dk_let]
    rw [if_pos (show dk_in 0 2 from dk_in_nI (n := 0) (by omega) (by omega)), if_pos (show dk_in 1 2 from dk_in_nI (n := 1) (by omega) (by omega))]
  · have : w = 0 ∨ w = 1 := by omega
    rcases this with rfl | rfl
    · have := (e2 a ha).1; rw [show 7 * 0 + a = a by omega]; exact this
    · have := (e2 a ha).2; rw [show 7 * 1 + a = 7 + a by omega]; exact this
  · have : w = 0 ∨ w = 1 := by omega
    rcases this with rfl | rfl
    · rw [pk_un (by omega), pk_us]
    · rw [pk_us]
/-- a job ends: the fonts of both sides -/
theorem sl_end {N F n u : Nat} {o : ob_FontShelf} {om : ob_mShelf} {ic pc ac gg gdt im pm am gm gst : Nat → Int32} (wc pnc ch lc dr wm pnm : Nat → Int32) (hN : 30000 < N) (h : slR F n u o om ic pc ac gg gdt im pm am gm gst) :
    ∃ F' n' u' o' om1 om' ic' pc' ac' gg' gdt' im' pm' am' gm' gs' wc' pnc' ch' lc' dr' wm' pnm' cnt, ex_FontShelf_endJob N o ic ac pc gg gdt wc pnc ch lc = some (o', ic', ac', pc', gg', gdt', wc', pnc', ch', lc') ∧ ex_mShelf_drop N om im am pm gm gst 1 = some (om1, im', am', pm', gm', gs', cnt) ∧ ex_mShelf_restart N om1 7 dr 14 wm 2 pnm = some (om', dr', wm', pnm') ∧ slR F' n' u' o' om' ic' pc' ac' gg' gdt' im' pm' am' gm' gs' ∧ wsR wc' pnc' wm' pnm' ∧ chM N F' pnm' im' wm' am' pm' ch' ∧ fd_FontShelf_chosenKnown o' = 1 := by
  obtain ⟨F', n', u', ic', pc', ac', gg', gdt', im', pm', am', gm', gs', cnt, d1, d2, d3⟩ := sl_drop1 (N := N) hN h
  obtain ⟨wc', w1, w2⟩ := ej_wish (N := N) (by omega) wc
  obtain ⟨pnc', p1, p2⟩ := ej_pins (N := N) (by omega) pnc
  obtain ⟨dr', wm', pnm', r1, r2, r3⟩ := sl_restart (N := N) (om := msO (fs_mShelf_loading (fs_mShelf_thrown om 0) 0) F' n' u') (by omega) dr wm pnm
  obtain ⟨hK, o1, o2, o3, m1, m2, m3, hi, hc⟩ := d3
  have hws : wsR wc' pnc' wm' pnm' := by
    refine ⟨fun i hi => ?_, fun w hw => ?_, fun w a hw ha => ?_, fun w hw => Or.inl (p2 w hw)⟩
    · have e : i = 7 * (i / 7) + i % 7 := by omega
      rw [e, w2 (i / 7) (i % 7) (by omega) (by omega), r2 (i / 7) (i % 7) (by omega) (by omega)]
    · rw [p2 w hw, r3 w hw]
    · rw [w2 w a hw ha]; exact fw_ok a ha
  obtain ⟨of, hof⟩ : ∃ of, of = fsO (fs_FontShelf_chosenKnown o 0) F' n' u' := ⟨_, rfl⟩
  rw [← hof] at d1 o1 o2 o3
  obtain ⟨o', ch', lc', s1, s2, s3, s4⟩ := sl_settle (N := N) (o := fs_FontShelf_chosenKnown (fs_FontShelf_code (fs_FontShelf_id of 0) 0) 0) (ch := ch) lc (by omega) hK o1 hws (Or.inl rfl)
  refine ⟨F', n', u', o', _, _, ic', pc', ac', gg', gdt', im', pm', am', gm', gs', wc', pnc', ch', lc', dr', wm', pnm', cnt, ?_, d2, r1, ?_, hws, s2, s3⟩
  · unfold ex_FontShelf_endJob
    rw [d1]
    simp only [Option.bind_some]
    rw [w1]
    simp only [Option.bind_some]
    rw [p1]
    simp only [Option.bind_some]
    rw [s1]
    rfl
  · rcases s4 with rfl | rfl
    · exact ⟨hK, o1, o2, o3, m1, m2, m3, rfl, rfl⟩
    · exact ⟨hK, o1, o2, o3, m1, m2, m3, rfl, rfl⟩
abbrev CS_this : Type := ob_Main × (Nat → Int32)
abbrev CS_shown : Type := ob_OutFile × (Nat → Int32) × (Nat → Int32)
abbrev CS_picture : Type := ob_PictureFile × Nat × (Nat → Int32) × Nat × (Nat → Int32) × Nat × (Nat → Int32)
abbrev CS_reader : Type := ob_LineReader × (Nat → Int32) × (Nat → Int32) × (Nat → Int32)
abbrev CS_coder : Type := ob_Coder × (Nat → Int32) × (Nat → Int32)
abbrev CS_sheet : Type := ob_Sheet × (Nat → Int32) × (Nat → Int32) × Nat × (Nat → Int64)
abbrev CS_page : Type := ob_Page × (Nat → Int32) × (Nat → Int32)
abbrev CS_file : Type := ob_OutFile × (Nat → Int32) × (Nat → Int32)
abbrev CS_interpreter : Type := ob_Interpreter × ob_Parser × (Nat → Int32) × (Nat → Int32) × (Nat → Int32) × (Nat → Int32) × (Nat → Int32) × (Nat → Int32) × (Nat → Int32) × (Nat → Int32) × (Nat → Int32)
abbrev CS_macros : Type := ob_Macros × (Nat → Int32) × (Nat → Int32) × (Nat → Int32) × (Nat → Int32) × (Nat → Int32) × Nat × (Nat → Int32) × (Nat → Int32) × (Nat → Int32)
abbrev CS_fonts : Type := ob_FontShelf × (Nat → Int32) × (Nat → Int32) × (Nat → Int32) × (Nat → Int32) × (Nat → Int32) × (Nat → Int32) × (Nat → Int32) × (Nat → Int32) × (Nat → Int32) × (Nat → Int32)
abbrev CS_raster : Type := ob_Raster × (Nat → Int32)
abbrev CS : Type := CS_this × CS_shown × CS_picture × CS_reader × CS_coder × CS_sheet × CS_page × CS_file × CS_interpreter × CS_macros × CS_fonts × CS_raster
abbrev CS.o_this (s : CS) : ob_Main := s.1.1
abbrev CS.g_tape (s : CS) : Nat → Int32 := s.1.2
abbrev CS.o_shown (s : CS) : ob_OutFile := s.2.1.1
abbrev CS.g_shown_bytes (s : CS) : Nat → Int32 := s.2.1.2.1
abbrev CS.g_shown_table (s : CS) : Nat → Int32 := s.2.1.2.2
abbrev CS.o_picture (s : CS) : ob_PictureFile := s.2.2.1.1
abbrev CS.n_picture_types (s : CS) : Nat := s.2.2.1.2.1
abbrev CS.g_picture_types (s : CS) : Nat → Int32 := s.2.2.1.2.2.1
abbrev CS.n_picture_counts (s : CS) : Nat := s.2.2.1.2.2.2.1
abbrev CS.g_picture_counts (s : CS) : Nat → Int32 := s.2.2.1.2.2.2.2.1
abbrev CS.n_picture_places (s : CS) : Nat := s.2.2.1.2.2.2.2.2.1
abbrev CS.g_picture_places (s : CS) : Nat → Int32 := s.2.2.1.2.2.2.2.2.2
abbrev CS.o_reader (s : CS) : ob_LineReader := s.2.2.2.1.1
abbrev CS.g_reader_tree (s : CS) : Nat → Int32 := s.2.2.2.1.2.1
abbrev CS.g_reader_above (s : CS) : Nat → Int32 := s.2.2.2.1.2.2.1
abbrev CS.g_reader_line (s : CS) : Nat → Int32 := s.2.2.2.1.2.2.2
abbrev CS.o_coder (s : CS) : ob_Coder := s.2.2.2.2.1.1
abbrev CS.g_coder_line (s : CS) : Nat → Int32 := s.2.2.2.2.1.2.1
abbrev CS.g_coder_above (s : CS) : Nat → Int32 := s.2.2.2.2.1.2.2
abbrev CS.o_sheet (s : CS) : ob_Sheet := s.2.2.2.2.2.1.1
abbrev CS.g_sheet_marks (s : CS) : Nat → Int32 := s.2.2.2.2.2.1.2.1
abbrev CS.g_sheet_dots (s : CS) : Nat → Int32 := s.2.2.2.2.2.1.2.2.1
abbrev CS.n_sheet_band (s : CS) : Nat := s.2.2.2.2.2.1.2.2.2.1
abbrev CS.g_sheet_band (s : CS) : Nat → Int64 := s.2.2.2.2.2.1.2.2.2.2
abbrev CS.o_page (s : CS) : ob_Page := s.2.2.2.2.2.2.1.1
abbrev CS.g_page_stack (s : CS) : Nat → Int32 := s.2.2.2.2.2.2.1.2.1
abbrev CS.g_page_kept (s : CS) : Nat → Int32 := s.2.2.2.2.2.2.1.2.2
abbrev CS.o_file (s : CS) : ob_OutFile := s.2.2.2.2.2.2.2.1.1
abbrev CS.g_file_bytes (s : CS) : Nat → Int32 := s.2.2.2.2.2.2.2.1.2.1
abbrev CS.g_file_table (s : CS) : Nat → Int32 := s.2.2.2.2.2.2.2.1.2.2
abbrev CS.o_interpreter (s : CS) : ob_Interpreter := s.2.2.2.2.2.2.2.2.1.1
abbrev CS.o_interpreter_parser (s : CS) : ob_Parser := s.2.2.2.2.2.2.2.2.1.2.1
abbrev CS.g_interpreter_at (s : CS) : Nat → Int32 := s.2.2.2.2.2.2.2.2.1.2.2.1
abbrev CS.g_interpreter_ends (s : CS) : Nat → Int32 := s.2.2.2.2.2.2.2.2.1.2.2.2.1
abbrev CS.g_interpreter_actCount (s : CS) : Nat → Int32 := s.2.2.2.2.2.2.2.2.1.2.2.2.2.1
abbrev CS.g_interpreter_actNext (s : CS) : Nat → Int32 := s.2.2.2.2.2.2.2.2.1.2.2.2.2.2.1
abbrev CS.g_interpreter_copies (s : CS) : Nat → Int32 := s.2.2.2.2.2.2.2.2.1.2.2.2.2.2.2.1
abbrev CS.g_interpreter_called (s : CS) : Nat → Int32 := s.2.2.2.2.2.2.2.2.1.2.2.2.2.2.2.2.1
abbrev CS.g_interpreter_acts (s : CS) : Nat → Int32 := s.2.2.2.2.2.2.2.2.1.2.2.2.2.2.2.2.2.1
abbrev CS.g_interpreter_actIds (s : CS) : Nat → Int32 := s.2.2.2.2.2.2.2.2.1.2.2.2.2.2.2.2.2.2.1
abbrev CS.g_interpreter_parser_data (s : CS) : Nat → Int32 := s.2.2.2.2.2.2.2.2.1.2.2.2.2.2.2.2.2.2.2
abbrev CS.o_macros (s : CS) : ob_Macros := s.2.2.2.2.2.2.2.2.2.1.1
abbrev CS.g_macros_ids (s : CS) : Nat → Int32 := s.2.2.2.2.2.2.2.2.2.1.2.1
abbrev CS.g_macros_places (s : CS) : Nat → Int32 := s.2.2.2.2.2.2.2.2.2.1.2.2.1
abbrev CS.g_macros_lengths (s : CS) : Nat → Int32 := s.2.2.2.2.2.2.2.2.2.1.2.2.2.1
abbrev CS.g_macros_permanent (s : CS) : Nat → Int32 := s.2.2.2.2.2.2.2.2.2.1.2.2.2.2.1
abbrev CS.g_macros_bytes (s : CS) : Nat → Int32 := s.2.2.2.2.2.2.2.2.2.1.2.2.2.2.2.1
abbrev CS.n_macros_collected (s : CS) : Nat := s.2.2.2.2.2.2.2.2.2.1.2.2.2.2.2.2.1
abbrev CS.g_macros_collected (s : CS) : Nat → Int32 := s.2.2.2.2.2.2.2.2.2.1.2.2.2.2.2.2.2.1
abbrev CS.g_macros_saidActs (s : CS) : Nat → Int32 := s.2.2.2.2.2.2.2.2.2.1.2.2.2.2.2.2.2.2.1
abbrev CS.g_macros_saidIds (s : CS) : Nat → Int32 := s.2.2.2.2.2.2.2.2.2.1.2.2.2.2.2.2.2.2.2
abbrev CS.o_fonts (s : CS) : ob_FontShelf := s.2.2.2.2.2.2.2.2.2.2.1.1
abbrev CS.g_fonts_ids (s : CS) : Nat → Int32 := s.2.2.2.2.2.2.2.2.2.2.1.2.1
abbrev CS.g_fonts_attributes (s : CS) : Nat → Int32 := s.2.2.2.2.2.2.2.2.2.2.1.2.2.1
abbrev CS.g_fonts_permanent (s : CS) : Nat → Int32 := s.2.2.2.2.2.2.2.2.2.2.1.2.2.2.1
abbrev CS.g_fonts_glyphs (s : CS) : Nat → Int32 := s.2.2.2.2.2.2.2.2.2.2.1.2.2.2.2.1
abbrev CS.g_fonts_dots (s : CS) : Nat → Int32 := s.2.2.2.2.2.2.2.2.2.2.1.2.2.2.2.2.1
abbrev CS.g_fonts_wishes (s : CS) : Nat → Int32 := s.2.2.2.2.2.2.2.2.2.2.1.2.2.2.2.2.2.1
abbrev CS.g_fonts_pins (s : CS) : Nat → Int32 := s.2.2.2.2.2.2.2.2.2.2.1.2.2.2.2.2.2.2.1
abbrev CS.g_fonts_chosen (s : CS) : Nat → Int32 := s.2.2.2.2.2.2.2.2.2.2.1.2.2.2.2.2.2.2.2.1
abbrev CS.g_fonts_left (s : CS) : Nat → Int32 := s.2.2.2.2.2.2.2.2.2.2.1.2.2.2.2.2.2.2.2.2.1
abbrev CS.g_fonts_coming (s : CS) : Nat → Int32 := s.2.2.2.2.2.2.2.2.2.2.1.2.2.2.2.2.2.2.2.2.2
abbrev CS.o_raster (s : CS) : ob_Raster := s.2.2.2.2.2.2.2.2.2.2.2.1
abbrev CS.g_raster_seed (s : CS) : Nat → Int32 := s.2.2.2.2.2.2.2.2.2.2.2.2

abbrev RS_this : Type := ob_Ref × (Nat → Int32) × (Nat → Int32) × (Nat → Int32) × (Nat → Int32) × (Nat → Int32) × (Nat → Int32) × (Nat → Int32) × (Nat → Int32) × (Nat → Int32) × (Nat → Int32) × (Nat → Int32)
abbrev RS_job : Type := ob_mPictures × (Nat → Int32) × (Nat → Int32) × (Nat → Int32)
abbrev RS_lines : Type := ob_mLines × Nat × (Nat → Int32) × (Nat → Int32) × (Nat → Int32) × (Nat → Int32) × (Nat → Int32) × (Nat → Int32) × (Nat → Int32) × (Nat → Int32) × (Nat → Int32) × (Nat → Int32) × (Nat → Int32)
abbrev RS_sheet : Type := ob_mSheet × Nat × (Nat → Int64)
abbrev RS_desk : Type := ob_mDesk × (Nat → Int32) × (Nat → Int32) × (Nat → Int32) × (Nat → Int32) × (Nat → Int32) × (Nat → Int32) × (Nat → Int32) × (Nat → Int32)
abbrev RS_shelf : Type := ob_mShelf × (Nat → Int32) × (Nat → Int32) × (Nat → Int32) × (Nat → Int32) × (Nat → Int32) × (Nat → Int32) × (Nat → Int32) × (Nat → Int32) × (Nat → Int32) × (Nat → Int32) × (Nat → Int32)
abbrev RS_macros : Type := ob_mMacros × (Nat → Int32) × (Nat → Int32) × (Nat → Int32) × (Nat → Int32) × (Nat → Int32)
abbrev RS_shown : Type := ob_mPictures × (Nat → Int32)
abbrev RS_part : Type := ob_mPictures × (Nat → Int64) × (Nat → Int32) × (Nat → Int32) × (Nat → Int32) × (Nat → Int32) × (Nat → Int32)
abbrev RS_view : Type := ob_mLines × (Nat → Int32) × (Nat → Int32) × (Nat → Int32) × (Nat → Int32) × (Nat → Int32) × (Nat → Int32) × (Nat → Int32) × (Nat → Int32)
abbrev RS : Type := RS_this × RS_job × RS_lines × RS_sheet × RS_desk × RS_shelf × RS_macros × RS_shown × RS_part × RS_view
abbrev RS.o_this (s : RS) : ob_Ref := s.1.1
abbrev RS.g_pages (s : RS) : Nat → Int32 := s.1.2.1
abbrev RS.g_fresh (s : RS) : Nat → Int32 := s.1.2.2.1
abbrev RS.g_shownPages (s : RS) : Nat → Int32 := s.1.2.2.2.1
abbrev RS.g_tape (s : RS) : Nat → Int32 := s.1.2.2.2.2.1
abbrev RS.g_seed (s : RS) : Nat → Int32 := s.1.2.2.2.2.2.1
abbrev RS.g_xWhat (s : RS) : Nat → Int32 := s.1.2.2.2.2.2.2.1
abbrev RS.g_xId (s : RS) : Nat → Int32 := s.1.2.2.2.2.2.2.2.1
abbrev RS.g_toDo (s : RS) : Nat → Int32 := s.1.2.2.2.2.2.2.2.2.1
abbrev RS.g_toDoId (s : RS) : Nat → Int32 := s.1.2.2.2.2.2.2.2.2.2.1
abbrev RS.g_bytes2 (s : RS) : Nat → Int32 := s.1.2.2.2.2.2.2.2.2.2.2.1
abbrev RS.g_bytes1 (s : RS) : Nat → Int32 := s.1.2.2.2.2.2.2.2.2.2.2.2
abbrev RS.o_job (s : RS) : ob_mPictures := s.2.1.1
abbrev RS.g_job_file (s : RS) : Nat → Int32 := s.2.1.2.1
abbrev RS.g_job_places (s : RS) : Nat → Int32 := s.2.1.2.2.1
abbrev RS.g_job_lengths (s : RS) : Nat → Int32 := s.2.1.2.2.2
abbrev RS.o_lines (s : RS) : ob_mLines := s.2.2.1.1
abbrev RS.n_lines_out (s : RS) : Nat := s.2.2.1.2.1
abbrev RS.g_lines_out (s : RS) : Nat → Int32 := s.2.2.1.2.2.1
abbrev RS.g_lines_line (s : RS) : Nat → Int32 := s.2.2.1.2.2.2.1
abbrev RS.g_lines_above (s : RS) : Nat → Int32 := s.2.2.1.2.2.2.2.1
abbrev RS.g_lines_whiteRests (s : RS) : Nat → Int32 := s.2.2.1.2.2.2.2.2.1
abbrev RS.g_lines_blackRests (s : RS) : Nat → Int32 := s.2.2.1.2.2.2.2.2.2.1
abbrev RS.g_lines_whiteBlocks (s : RS) : Nat → Int32 := s.2.2.1.2.2.2.2.2.2.2.1
abbrev RS.g_lines_blackBlocks (s : RS) : Nat → Int32 := s.2.2.1.2.2.2.2.2.2.2.2.1
abbrev RS.g_lines_blocks (s : RS) : Nat → Int32 := s.2.2.1.2.2.2.2.2.2.2.2.2.1
abbrev RS.g_lines_modes (s : RS) : Nat → Int32 := s.2.2.1.2.2.2.2.2.2.2.2.2.2.1
abbrev RS.g_lines_readAbove (s : RS) : Nat → Int32 := s.2.2.1.2.2.2.2.2.2.2.2.2.2.2.1
abbrev RS.g_lines_readLine (s : RS) : Nat → Int32 := s.2.2.1.2.2.2.2.2.2.2.2.2.2.2.2
abbrev RS.o_sheet (s : RS) : ob_mSheet := s.2.2.2.1.1
abbrev RS.n_sheet_dots (s : RS) : Nat := s.2.2.2.1.2.1
abbrev RS.g_sheet_dots (s : RS) : Nat → Int64 := s.2.2.2.1.2.2
abbrev RS.o_desk (s : RS) : ob_mDesk := s.2.2.2.2.1.1
abbrev RS.g_desk_state (s : RS) : Nat → Int32 := s.2.2.2.2.1.2.1
abbrev RS.g_desk_isKept (s : RS) : Nat → Int32 := s.2.2.2.2.1.2.2.1
abbrev RS.g_desk_steps (s : RS) : Nat → Int32 := s.2.2.2.2.1.2.2.2.1
abbrev RS.g_desk_store (s : RS) : Nat → Int32 := s.2.2.2.2.1.2.2.2.2.1
abbrev RS.g_desk_page (s : RS) : Nat → Int32 := s.2.2.2.2.1.2.2.2.2.2.1
abbrev RS.g_desk_other (s : RS) : Nat → Int32 := s.2.2.2.2.1.2.2.2.2.2.2.1
abbrev RS.g_desk_glyph (s : RS) : Nat → Int32 := s.2.2.2.2.1.2.2.2.2.2.2.2.1
abbrev RS.g_desk_kept (s : RS) : Nat → Int32 := s.2.2.2.2.1.2.2.2.2.2.2.2.2
abbrev RS.o_shelf (s : RS) : ob_mShelf := s.2.2.2.2.2.1.1
abbrev RS.g_shelf_ids (s : RS) : Nat → Int32 := s.2.2.2.2.2.1.2.1
abbrev RS.g_shelf_attributes (s : RS) : Nat → Int32 := s.2.2.2.2.2.1.2.2.1
abbrev RS.g_shelf_permanent (s : RS) : Nat → Int32 := s.2.2.2.2.2.1.2.2.2.1
abbrev RS.g_shelf_glyph (s : RS) : Nat → Int32 := s.2.2.2.2.2.1.2.2.2.2.1
abbrev RS.g_shelf_store (s : RS) : Nat → Int32 := s.2.2.2.2.2.1.2.2.2.2.2.1
abbrev RS.g_shelf_draft (s : RS) : Nat → Int32 := s.2.2.2.2.2.1.2.2.2.2.2.2.1
abbrev RS.g_shelf_wishes (s : RS) : Nat → Int32 := s.2.2.2.2.2.1.2.2.2.2.2.2.2.1
abbrev RS.g_shelf_pins (s : RS) : Nat → Int32 := s.2.2.2.2.2.1.2.2.2.2.2.2.2.2.1
abbrev RS.g_shelf_coming (s : RS) : Nat → Int32 := s.2.2.2.2.2.1.2.2.2.2.2.2.2.2.2.1
abbrev RS.g_shelf_bytes (s : RS) : Nat → Int32 := s.2.2.2.2.2.1.2.2.2.2.2.2.2.2.2.2.1
abbrev RS.g_shelf_left (s : RS) : Nat → Int32 := s.2.2.2.2.2.1.2.2.2.2.2.2.2.2.2.2.2
abbrev RS.o_macros (s : RS) : ob_mMacros := s.2.2.2.2.2.2.1.1
abbrev RS.g_macros_ids (s : RS) : Nat → Int32 := s.2.2.2.2.2.2.1.2.1
abbrev RS.g_macros_permanent (s : RS) : Nat → Int32 := s.2.2.2.2.2.2.1.2.2.1
abbrev RS.g_macros_lengths (s : RS) : Nat → Int32 := s.2.2.2.2.2.2.1.2.2.2.1
abbrev RS.g_macros_store (s : RS) : Nat → Int32 := s.2.2.2.2.2.2.1.2.2.2.2.1
abbrev RS.g_macros_buffer (s : RS) : Nat → Int32 := s.2.2.2.2.2.2.1.2.2.2.2.2
abbrev RS.o_shown (s : RS) : ob_mPictures := s.2.2.2.2.2.2.2.1.1
abbrev RS.g_shown_file (s : RS) : Nat → Int32 := s.2.2.2.2.2.2.2.1.2
abbrev RS.o_part (s : RS) : ob_mPictures := s.2.2.2.2.2.2.2.2.1.1
abbrev RS.g_part_numbers (s : RS) : Nat → Int64 := s.2.2.2.2.2.2.2.2.1.2.1
abbrev RS.g_part_firstStrip (s : RS) : Nat → Int32 := s.2.2.2.2.2.2.2.2.1.2.2.1
abbrev RS.g_part_stripPlace (s : RS) : Nat → Int32 := s.2.2.2.2.2.2.2.2.1.2.2.2.1
abbrev RS.g_part_stripLength (s : RS) : Nat → Int32 := s.2.2.2.2.2.2.2.2.1.2.2.2.2.1
abbrev RS.g_part_file (s : RS) : Nat → Int32 := s.2.2.2.2.2.2.2.2.1.2.2.2.2.2.1
abbrev RS.g_part_entry (s : RS) : Nat → Int32 := s.2.2.2.2.2.2.2.2.1.2.2.2.2.2.2
abbrev RS.o_view (s : RS) : ob_mLines := s.2.2.2.2.2.2.2.2.2.1
abbrev RS.g_view_readAbove (s : RS) : Nat → Int32 := s.2.2.2.2.2.2.2.2.2.2.1
abbrev RS.g_view_whiteRests (s : RS) : Nat → Int32 := s.2.2.2.2.2.2.2.2.2.2.2.1
abbrev RS.g_view_blackRests (s : RS) : Nat → Int32 := s.2.2.2.2.2.2.2.2.2.2.2.2.1
abbrev RS.g_view_whiteBlocks (s : RS) : Nat → Int32 := s.2.2.2.2.2.2.2.2.2.2.2.2.2.1
abbrev RS.g_view_blackBlocks (s : RS) : Nat → Int32 := s.2.2.2.2.2.2.2.2.2.2.2.2.2.2.1
abbrev RS.g_view_blocks (s : RS) : Nat → Int32 := s.2.2.2.2.2.2.2.2.2.2.2.2.2.2.2.1
abbrev RS.g_view_modes (s : RS) : Nat → Int32 := s.2.2.2.2.2.2.2.2.2.2.2.2.2.2.2.2.1
abbrev RS.g_view_readLine (s : RS) : Nat → Int32 := s.2.2.2.2.2.2.2.2.2.2.2.2.2.2.2.2.2

def kMore (N : Nat) (s : CS) : Option (Int32) := (ex_Interpreter_hasMore N s.o_interpreter s.g_interpreter_at s.g_interpreter_ends s.g_interpreter_actNext s.g_interpreter_actCount).map (fun u => u)

def kNext (N : Nat) (s : CS) : Option (CS × Int32) := (ex_Interpreter_next N s.o_interpreter s.g_interpreter_actNext s.g_interpreter_actCount s.g_interpreter_at s.g_interpreter_ends s.o_page s.g_interpreter_called s.g_page_stack s.g_page_kept 65536 s.g_tape s.o_macros s.o_interpreter_parser s.g_interpreter_copies s.g_interpreter_parser_data s.g_macros_ids s.g_macros_places s.g_macros_lengths s.g_macros_permanent s.g_macros_bytes s.n_macros_collected s.g_macros_collected s.g_interpreter_acts s.g_interpreter_actIds).map (fun u => (((s.1, s.2.1, s.2.2.1, s.2.2.2.1, s.2.2.2.2.1, s.2.2.2.2.2.1, (u.2.2.2.2.2.1, u.2.2.2.2.2.2.2.1, u.2.2.2.2.2.2.2.2.1), s.2.2.2.2.2.2.2.1, (u.1, u.2.2.2.2.2.2.2.2.2.2.1, u.2.2.2.1, u.2.2.2.2.1, u.2.2.1, u.2.1, u.2.2.2.2.2.2.2.2.2.2.2.1, u.2.2.2.2.2.2.1, s.g_interpreter_acts, s.g_interpreter_actIds, u.2.2.2.2.2.2.2.2.2.2.2.2.1), (u.2.2.2.2.2.2.2.2.2.1, u.2.2.2.2.2.2.2.2.2.2.2.2.2.1, u.2.2.2.2.2.2.2.2.2.2.2.2.2.2.1, u.2.2.2.2.2.2.2.2.2.2.2.2.2.2.2.1, u.2.2.2.2.2.2.2.2.2.2.2.2.2.2.2.2.1, u.2.2.2.2.2.2.2.2.2.2.2.2.2.2.2.2.2.1, s.n_macros_collected, u.2.2.2.2.2.2.2.2.2.2.2.2.2.2.2.2.2.2.1, s.g_macros_saidActs, s.g_macros_saidIds), s.2.2.2.2.2.2.2.2.2.2.1, s.2.2.2.2.2.2.2.2.2.2.2) : CS), u.2.2.2.2.2.2.2.2.2.2.2.2.2.2.2.2.2.2.2))

def kAct (N : Nat) (s : CS) (v0 : Int32) : Option (CS) := (ex_Interpreter_act N s.o_interpreter s.o_interpreter_parser s.o_page s.o_fonts s.g_fonts_ids s.g_fonts_attributes s.g_fonts_glyphs s.g_fonts_chosen s.o_macros s.g_interpreter_acts s.g_interpreter_actIds s.g_interpreter_actCount s.g_interpreter_actNext s.g_macros_saidActs s.g_macros_saidIds s.o_sheet s.g_page_stack s.g_fonts_wishes s.g_fonts_pins s.g_fonts_permanent s.g_fonts_dots s.g_fonts_coming s.g_interpreter_parser_data s.o_raster s.g_raster_seed s.g_sheet_marks s.g_sheet_dots v0).map (fun u => ((s.1, s.2.1, s.2.2.1, s.2.2.2.1, s.2.2.2.2.1, (u.2.2.2.2.2.2.2.2.2.2.2.2.2.1, u.2.2.2.2.2.2.2.2.2.2.2.2.2.2.2.2.2.2.2.2.2.2.1, u.2.2.2.2.2.2.2.2.2.2.2.2.2.2.2.2.2.2.2.2.2.2.2, s.n_sheet_band, s.g_sheet_band), (u.2.1, u.2.2.2.2.2.2.2.2.2.2.2.2.2.2.1, s.g_page_kept), s.2.2.2.2.2.2.2.1, (u.1, s.o_interpreter_parser, s.g_interpreter_at, s.g_interpreter_ends, u.2.2.2.2.2.2.2.2.2.1, u.2.2.2.2.2.2.2.2.2.2.1, s.g_interpreter_copies, s.g_interpreter_called, u.2.2.2.2.2.2.2.1, u.2.2.2.2.2.2.2.2.1, s.g_interpreter_parser_data), (u.2.2.2.2.2.2.1, s.g_macros_ids, s.g_macros_places, s.g_macros_lengths, s.g_macros_permanent, s.g_macros_bytes, s.n_macros_collected, s.g_macros_collected, u.2.2.2.2.2.2.2.2.2.2.2.1, u.2.2.2.2.2.2.2.2.2.2.2.2.1), (u.2.2.1, u.2.2.2.1, u.2.2.2.2.1, u.2.2.2.2.2.2.2.2.2.2.2.2.2.2.2.2.2.1, u.2.2.2.2.2.1, u.2.2.2.2.2.2.2.2.2.2.2.2.2.2.2.2.2.2.1, u.2.2.2.2.2.2.2.2.2.2.2.2.2.2.2.1, u.2.2.2.2.2.2.2.2.2.2.2.2.2.2.2.2.1, s.g_fonts_chosen, s.g_fonts_left, u.2.2.2.2.2.2.2.2.2.2.2.2.2.2.2.2.2.2.2.1), (u.2.2.2.2.2.2.2.2.2.2.2.2.2.2.2.2.2.2.2.2.1, u.2.2.2.2.2.2.2.2.2.2.2.2.2.2.2.2.2.2.2.2.2.1)) : CS))

def kSettle (N : Nat) (s : CS) : Option (CS) := (ex_FontShelf_settle N s.o_fonts s.g_fonts_chosen s.g_fonts_ids s.g_fonts_attributes s.g_fonts_permanent s.g_fonts_wishes s.g_fonts_pins s.g_fonts_left).map (fun u => ((s.1, s.2.1, s.2.2.1, s.2.2.2.1, s.2.2.2.2.1, s.2.2.2.2.2.1, s.2.2.2.2.2.2.1, s.2.2.2.2.2.2.2.1, s.2.2.2.2.2.2.2.2.1, s.2.2.2.2.2.2.2.2.2.1, (u.1, s.g_fonts_ids, s.g_fonts_attributes, s.g_fonts_permanent, s.g_fonts_glyphs, s.g_fonts_dots, s.g_fonts_wishes, s.g_fonts_pins, u.2.1, u.2.2, s.g_fonts_coming), s.2.2.2.2.2.2.2.2.2.2.2) : CS))

def kPrint (N : Nat) (s : CS) : Option (CS × Int32) := (ex_Main_printSheet N s.o_this s.o_sheet s.o_page s.o_coder s.o_file s.g_file_bytes s.g_sheet_marks s.g_sheet_dots s.n_sheet_band s.g_sheet_band s.g_coder_above s.g_coder_line s.g_file_table).map (fun u => ((((u.1, s.g_tape), s.2.1, s.2.2.1, s.2.2.2.1, (u.2.2.1, u.2.2.2.2.2.2.2.1, u.2.2.2.2.2.2.1), (u.2.1, s.g_sheet_marks, s.g_sheet_dots, s.n_sheet_band, u.2.2.2.2.2.1), s.2.2.2.2.2.2.1, (u.2.2.2.1, u.2.2.2.2.1, u.2.2.2.2.2.2.2.2.1), s.2.2.2.2.2.2.2.2.1, s.2.2.2.2.2.2.2.2.2.1, s.2.2.2.2.2.2.2.2.2.2.1, s.2.2.2.2.2.2.2.2.2.2.2) : CS), u.2.2.2.2.2.2.2.2.2))

def kFinish (N : Nat) (s : CS) (v0 : Int32) : Option (CS) := (ex_Interpreter_finish N s.o_interpreter s.o_page s.o_sheet s.o_fonts s.g_sheet_marks s.g_sheet_dots s.g_fonts_ids s.g_fonts_glyphs s.g_fonts_dots s.g_fonts_chosen v0).map (fun u => ((s.1, s.2.1, s.2.2.1, s.2.2.2.1, s.2.2.2.2.1, (u.2.2.1, u.2.2.2.1, u.2.2.2.2, s.n_sheet_band, s.g_sheet_band), (u.2.1, s.g_page_stack, s.g_page_kept), s.2.2.2.2.2.2.2.1, (u.1, s.o_interpreter_parser, s.g_interpreter_at, s.g_interpreter_ends, s.g_interpreter_actCount, s.g_interpreter_actNext, s.g_interpreter_copies, s.g_interpreter_called, s.g_interpreter_acts, s.g_interpreter_actIds, s.g_interpreter_parser_data), s.2.2.2.2.2.2.2.2.2.1, s.2.2.2.2.2.2.2.2.2.2.1, s.2.2.2.2.2.2.2.2.2.2.2) : CS))

def kStream (N : Nat) (s : CS) (v0 : Int32) : Option (CS) := (ex_Main_printStream N s.o_this s.o_interpreter s.g_tape s.g_interpreter_at s.g_interpreter_ends s.g_interpreter_actCount s.g_interpreter_actNext s.o_page s.o_macros s.o_interpreter_parser s.g_interpreter_copies s.g_interpreter_called s.g_interpreter_acts s.g_interpreter_actIds s.g_page_stack s.g_page_kept s.g_macros_ids s.g_macros_places s.g_macros_lengths s.g_macros_permanent s.g_macros_bytes s.n_macros_collected s.g_macros_collected s.g_interpreter_parser_data s.o_sheet s.o_fonts s.o_raster s.g_fonts_ids s.g_fonts_attributes s.g_fonts_permanent s.g_fonts_glyphs s.g_fonts_dots s.g_fonts_wishes s.g_fonts_pins s.g_fonts_chosen s.g_fonts_coming s.g_macros_saidActs s.g_macros_saidIds s.g_sheet_marks s.g_sheet_dots s.g_raster_seed s.g_fonts_left s.o_coder s.o_file s.n_sheet_band s.g_sheet_band s.g_coder_above s.g_coder_line s.g_file_bytes s.g_file_table v0).map (fun u => (((u.1, s.g_tape), s.2.1, s.2.2.1, s.2.2.2.1, (u.2.2.2.2.2.2.2.2.2.2.2.2.2.2.2.2.2.2.2.2.2.2.2.2.2.2.2.2.2.2.2.2.2.2.2.2.2.2.2.2.1, u.2.2.2.2.2.2.2.2.2.2.2.2.2.2.2.2.2.2.2.2.2.2.2.2.2.2.2.2.2.2.2.2.2.2.2.2.2.2.2.2.2.2.2.2.1, u.2.2.2.2.2.2.2.2.2.2.2.2.2.2.2.2.2.2.2.2.2.2.2.2.2.2.2.2.2.2.2.2.2.2.2.2.2.2.2.2.2.2.2.1), (u.2.2.2.2.2.2.2.2.2.2.2.2.2.2.2.2.2.2.2.2.2.2.1, u.2.2.2.2.2.2.2.2.2.2.2.2.2.2.2.2.2.2.2.2.2.2.2.2.2.2.2.2.2.2.2.2.2.2.2.2.1, u.2.2.2.2.2.2.2.2.2.2.2.2.2.2.2.2.2.2.2.2.2.2.2.2.2.2.2.2.2.2.2.2.2.2.2.2.2.1, s.n_sheet_band, u.2.2.2.2.2.2.2.2.2.2.2.2.2.2.2.2.2.2.2.2.2.2.2.2.2.2.2.2.2.2.2.2.2.2.2.2.2.2.2.2.2.2.1), (u.2.2.2.2.2.2.1, u.2.2.2.2.2.2.2.2.2.2.2.2.2.1, u.2.2.2.2.2.2.2.2.2.2.2.2.2.2.1), (u.2.2.2.2.2.2.2.2.2.2.2.2.2.2.2.2.2.2.2.2.2.2.2.2.2.2.2.2.2.2.2.2.2.2.2.2.2.2.2.2.2.1, u.2.2.2.2.2.2.2.2.2.2.2.2.2.2.2.2.2.2.2.2.2.2.2.2.2.2.2.2.2.2.2.2.2.2.2.2.2.2.2.2.2.2.2.2.2.1, u.2.2.2.2.2.2.2.2.2.2.2.2.2.2.2.2.2.2.2.2.2.2.2.2.2.2.2.2.2.2.2.2.2.2.2.2.2.2.2.2.2.2.2.2.2.2), (u.2.1, u.2.2.2.2.2.2.2.2.1, u.2.2.1, u.2.2.2.1, u.2.2.2.2.1, u.2.2.2.2.2.1, u.2.2.2.2.2.2.2.2.2.1, u.2.2.2.2.2.2.2.2.2.2.1, u.2.2.2.2.2.2.2.2.2.2.2.1, u.2.2.2.2.2.2.2.2.2.2.2.2.1, u.2.2.2.2.2.2.2.2.2.2.2.2.2.2.2.2.2.2.2.2.2.1), (u.2.2.2.2.2.2.2.1, u.2.2.2.2.2.2.2.2.2.2.2.2.2.2.2.1, u.2.2.2.2.2.2.2.2.2.2.2.2.2.2.2.2.1, u.2.2.2.2.2.2.2.2.2.2.2.2.2.2.2.2.2.1, u.2.2.2.2.2.2.2.2.2.2.2.2.2.2.2.2.2.2.1, u.2.2.2.2.2.2.2.2.2.2.2.2.2.2.2.2.2.2.2.1, s.n_macros_collected, u.2.2.2.2.2.2.2.2.2.2.2.2.2.2.2.2.2.2.2.2.1, u.2.2.2.2.2.2.2.2.2.2.2.2.2.2.2.2.2.2.2.2.2.2.2.2.2.2.2.2.2.2.2.2.2.2.1, u.2.2.2.2.2.2.2.2.2.2.2.2.2.2.2.2.2.2.2.2.2.2.2.2.2.2.2.2.2.2.2.2.2.2.2.1), (u.2.2.2.2.2.2.2.2.2.2.2.2.2.2.2.2.2.2.2.2.2.2.2.1, u.2.2.2.2.2.2.2.2.2.2.2.2.2.2.2.2.2.2.2.2.2.2.2.2.2.1, u.2.2.2.2.2.2.2.2.2.2.2.2.2.2.2.2.2.2.2.2.2.2.2.2.2.2.1, u.2.2.2.2.2.2.2.2.2.2.2.2.2.2.2.2.2.2.2.2.2.2.2.2.2.2.2.1, u.2.2.2.2.2.2.2.2.2.2.2.2.2.2.2.2.2.2.2.2.2.2.2.2.2.2.2.2.1, u.2.2.2.2.2.2.2.2.2.2.2.2.2.2.2.2.2.2.2.2.2.2.2.2.2.2.2.2.2.1, u.2.2.2.2.2.2.2.2.2.2.2.2.2.2.2.2.2.2.2.2.2.2.2.2.2.2.2.2.2.2.1, u.2.2.2.2.2.2.2.2.2.2.2.2.2.2.2.2.2.2.2.2.2.2.2.2.2.2.2.2.2.2.2.1, u.2.2.2.2.2.2.2.2.2.2.2.2.2.2.2.2.2.2.2.2.2.2.2.2.2.2.2.2.2.2.2.2.1, u.2.2.2.2.2.2.2.2.2.2.2.2.2.2.2.2.2.2.2.2.2.2.2.2.2.2.2.2.2.2.2.2.2.2.2.2.2.2.2.1, u.2.2.2.2.2.2.2.2.2.2.2.2.2.2.2.2.2.2.2.2.2.2.2.2.2.2.2.2.2.2.2.2.2.1), (u.2.2.2.2.2.2.2.2.2.2.2.2.2.2.2.2.2.2.2.2.2.2.2.2.1, u.2.2.2.2.2.2.2.2.2.2.2.2.2.2.2.2.2.2.2.2.2.2.2.2.2.2.2.2.2.2.2.2.2.2.2.2.2.2.1)) : CS))

def mGlyph (N : Nat) (s : RS) (v0 : Int32) (v1 : Int32) : Option (RS × Int32) := (ex_mShelf_chosenGlyph N s.o_shelf s.g_shelf_ids s.g_shelf_attributes s.g_shelf_permanent 14 s.g_shelf_wishes 2 s.g_shelf_pins s.g_shelf_left s.g_shelf_glyph v0 v1).map (fun u => (((s.1, s.2.1, s.2.2.1, s.2.2.2.1, s.2.2.2.2.1, (s.o_shelf, s.g_shelf_ids, s.g_shelf_attributes, s.g_shelf_permanent, s.g_shelf_glyph, s.g_shelf_store, s.g_shelf_draft, s.g_shelf_wishes, s.g_shelf_pins, s.g_shelf_coming, s.g_shelf_bytes, u.1), s.2.2.2.2.2.2.1, s.2.2.2.2.2.2.2.1, s.2.2.2.2.2.2.2.2.1, s.2.2.2.2.2.2.2.2.2) : RS), u.2))

def mChoose (N : Nat) (s : RS) (v0 : Int32) : Option (RS × Int32) := (ex_mShelf_choose N s.o_shelf 2 s.g_shelf_pins s.g_shelf_ids s.g_shelf_left 14 s.g_shelf_wishes s.g_shelf_attributes s.g_shelf_permanent v0).map (fun u => (((s.1, s.2.1, s.2.2.1, s.2.2.2.1, s.2.2.2.2.1, (s.o_shelf, s.g_shelf_ids, s.g_shelf_attributes, s.g_shelf_permanent, s.g_shelf_glyph, s.g_shelf_store, s.g_shelf_draft, s.g_shelf_wishes, s.g_shelf_pins, s.g_shelf_coming, s.g_shelf_bytes, u.1), s.2.2.2.2.2.2.1, s.2.2.2.2.2.2.2.1, s.2.2.2.2.2.2.2.2.1, s.2.2.2.2.2.2.2.2.2) : RS), u.2))

def mAdv (N : Nat) (s : RS) (v0 : Int32) (v1 : Int32) (v2 : Int32) : Option (RS × Int32) := (ex_mDesk_advance N s.o_desk s.g_desk_steps v0 v1 v2).map (fun u => (((s.1, s.2.1, s.2.2.1, s.2.2.2.1, (u.1, s.g_desk_state, s.g_desk_isKept, u.2.1, s.g_desk_store, s.g_desk_page, s.g_desk_other, s.g_desk_glyph, s.g_desk_kept), s.2.2.2.2.2.1, s.2.2.2.2.2.2.1, s.2.2.2.2.2.2.2.1, s.2.2.2.2.2.2.2.2.1, s.2.2.2.2.2.2.2.2.2) : RS), u.2.2))

def mIsSeq (N : Nat) (s : RS) : Option (Int32) := (ex_mDesk_isSequence N s.o_desk).map (fun u => u)

def mDesk (N : Nat) (s : RS) (v0 : Int32) : Option (RS) := (ex_mDesk_comes N s.o_desk s.g_desk_state s.g_desk_page s.g_desk_steps s.g_desk_glyph s.g_desk_other s.g_desk_store v0).map (fun u => ((s.1, s.2.1, s.2.2.1, s.2.2.2.1, (u.1, u.2.1, s.g_desk_isKept, s.g_desk_steps, u.2.2.2.2.2, u.2.2.1, u.2.2.2.2.1, u.2.2.2.1, s.g_desk_kept), s.2.2.2.2.2.1, s.2.2.2.2.2.2.1, s.2.2.2.2.2.2.2.1, s.2.2.2.2.2.2.2.2.1, s.2.2.2.2.2.2.2.2.2) : RS))

def mPrint (N : Nat) (s : RS) : Option (RS) := (ex_Ref_print N s.o_this s.o_desk s.g_desk_page s.o_lines s.o_sheet s.g_lines_line s.g_lines_above s.n_sheet_dots s.g_sheet_dots s.g_lines_whiteRests s.g_lines_blackRests s.g_lines_whiteBlocks s.g_lines_blackBlocks s.g_lines_blocks s.g_lines_modes s.n_lines_out s.g_lines_out s.o_job s.g_pages s.g_job_file s.g_job_places s.g_job_lengths).map (fun u => (((u.1, u.2.2.2.2.2.2.2.2.1, s.g_fresh, s.g_shownPages, s.g_tape, s.g_seed, s.g_xWhat, s.g_xId, s.g_toDo, s.g_toDoId, s.g_bytes2, s.g_bytes1), (u.2.2.2.2.2.2.2.1, u.2.2.2.2.2.2.2.2.2.1, u.2.2.2.2.2.2.2.2.2.2.1, u.2.2.2.2.2.2.2.2.2.2.2), (u.2.1, s.n_lines_out, u.2.2.2.2.2.2.1, u.2.2.2.1, u.2.2.2.2.1, s.g_lines_whiteRests, s.g_lines_blackRests, s.g_lines_whiteBlocks, s.g_lines_blackBlocks, s.g_lines_blocks, s.g_lines_modes, s.g_lines_readAbove, s.g_lines_readLine), (u.2.2.1, s.n_sheet_dots, u.2.2.2.2.2.1), s.2.2.2.2.1, s.2.2.2.2.2.1, s.2.2.2.2.2.2.1, s.2.2.2.2.2.2.2.1, s.2.2.2.2.2.2.2.2.1, s.2.2.2.2.2.2.2.2.2) : RS))

def mMeasure (N : Nat) (s : RS) : Option (RS) := (ex_Ref_measure N s.o_this s.o_sheet s.o_desk).map (fun u => ((s.1, s.2.1, s.2.2.1, (u, s.n_sheet_dots, s.g_sheet_dots), s.2.2.2.2.1, s.2.2.2.2.2.1, s.2.2.2.2.2.2.1, s.2.2.2.2.2.2.2.1, s.2.2.2.2.2.2.2.2.1, s.2.2.2.2.2.2.2.2.2) : RS))

def mPaint (N : Nat) (s : RS) (v0 : Int32) : Option (RS) := (ex_Ref_paintGlyph N s.o_this s.o_shelf s.g_shelf_glyph s.o_sheet s.o_desk s.g_shelf_store s.n_sheet_dots s.g_sheet_dots v0).map (fun u => ((s.1, s.2.1, s.2.2.1, (u.1, s.n_sheet_dots, u.2), s.2.2.2.2.1, s.2.2.2.2.2.1, s.2.2.2.2.2.2.1, s.2.2.2.2.2.2.2.1, s.2.2.2.2.2.2.2.2.1, s.2.2.2.2.2.2.2.2.2) : RS))

def mOther (N : Nat) (s : RS) : Option (RS) := (ex_Ref_other N s.o_this s.o_desk s.g_desk_other s.o_shelf s.g_shelf_ids s.g_shelf_attributes s.g_shelf_permanent s.g_shelf_glyph s.g_shelf_store 7 s.g_shelf_draft 14 s.g_shelf_wishes 2 s.g_shelf_pins s.g_shelf_coming s.g_shelf_bytes s.g_desk_store s.g_xWhat s.g_xId s.o_sheet s.g_seed s.g_fresh s.g_desk_state s.n_sheet_dots s.g_sheet_dots).map (fun u => (((u.1, s.g_pages, u.2.2.2.2.2.2.2.2.2.2.2.2.2.2.2.2.2.1, s.g_shownPages, s.g_tape, u.2.2.2.2.2.2.2.2.2.2.2.2.2.2.2.2.1, u.2.2.2.2.2.2.2.2.2.2.2.2.2.1, u.2.2.2.2.2.2.2.2.2.2.2.2.2.2.1, s.g_toDo, s.g_toDoId, s.g_bytes2, s.g_bytes1), s.2.1, s.2.2.1, (u.2.2.2.2.2.2.2.2.2.2.2.2.2.2.2.1, s.n_sheet_dots, u.2.2.2.2.2.2.2.2.2.2.2.2.2.2.2.2.2.2.2), (u.2.1, u.2.2.2.2.2.2.2.2.2.2.2.2.2.2.2.2.2.2.1, s.g_desk_isKept, s.g_desk_steps, s.g_desk_store, s.g_desk_page, s.g_desk_other, s.g_desk_glyph, s.g_desk_kept), (u.2.2.1, u.2.2.2.1, u.2.2.2.2.1, u.2.2.2.2.2.1, u.2.2.2.2.2.2.1, u.2.2.2.2.2.2.2.1, u.2.2.2.2.2.2.2.2.1, u.2.2.2.2.2.2.2.2.2.1, u.2.2.2.2.2.2.2.2.2.2.1, u.2.2.2.2.2.2.2.2.2.2.2.1, u.2.2.2.2.2.2.2.2.2.2.2.2.1, s.g_shelf_left), s.2.2.2.2.2.2.1, s.2.2.2.2.2.2.2.1, s.2.2.2.2.2.2.2.2.1, s.2.2.2.2.2.2.2.2.2) : RS))

def mTake (N : Nat) (s : RS) : Option (RS × Int32) := (ex_mDesk_take N s.o_desk s.g_desk_other s.g_desk_store).map (fun u => (((s.1, s.2.1, s.2.2.1, s.2.2.2.1, (u.1, s.g_desk_state, s.g_desk_isKept, s.g_desk_steps, u.2.2.1, s.g_desk_page, u.2.1, s.g_desk_glyph, s.g_desk_kept), s.2.2.2.2.2.1, s.2.2.2.2.2.2.1, s.2.2.2.2.2.2.2.1, s.2.2.2.2.2.2.2.2.1, s.2.2.2.2.2.2.2.2.2) : RS), u.2.2.2))

def mMacro2 (N : Nat) (s : RS) (v0 : Int32) (v1 : Int32) : Option (RS) := (ex_Ref_macro_c2 N s.o_this s.o_macros s.g_macros_ids s.g_macros_permanent s.g_macros_lengths s.g_macros_store v0 v1).map (fun u => ((s.1, s.2.1, s.2.2.1, s.2.2.2.1, s.2.2.2.2.1, s.2.2.2.2.2.1, (u.1, u.2.1, u.2.2.1, u.2.2.2.1, u.2.2.2.2, s.g_macros_buffer), s.2.2.2.2.2.2.2.1, s.2.2.2.2.2.2.2.2.1, s.2.2.2.2.2.2.2.2.2) : RS))

def mWork2 (N : Nat) (s : RS) : Option (RS) := (ex_Ref_work_c2 N s.o_this s.g_toDo s.g_xWhat s.g_toDoId s.g_xId s.o_macros s.g_macros_ids s.g_macros_permanent s.g_macros_lengths s.g_macros_store).map (fun u => (((u.1, s.g_pages, s.g_fresh, s.g_shownPages, s.g_tape, s.g_seed, s.g_xWhat, s.g_xId, u.2.1, u.2.2.1, s.g_bytes2, s.g_bytes1), s.2.1, s.2.2.1, s.2.2.2.1, s.2.2.2.2.1, s.2.2.2.2.2.1, (u.2.2.2.1, u.2.2.2.2.1, u.2.2.2.2.2.1, u.2.2.2.2.2.2.1, u.2.2.2.2.2.2.2, s.g_macros_buffer), s.2.2.2.2.2.2.2.1, s.2.2.2.2.2.2.2.2.1, s.2.2.2.2.2.2.2.2.2) : RS))

def mComes2 (N : Nat) (s : RS) (v0 : Int32) : Option (RS) := (ex_Ref_comes_c2 N s.o_this s.o_desk s.o_macros s.g_xWhat s.g_xId s.g_toDo s.g_toDoId s.g_macros_ids s.g_macros_permanent s.g_macros_lengths s.g_macros_store s.g_desk_state s.o_shelf s.g_shelf_ids s.g_shelf_attributes s.g_shelf_permanent s.g_shelf_glyph 14 s.g_shelf_wishes 2 s.g_shelf_pins s.g_shelf_left s.g_desk_steps s.g_desk_glyph s.g_desk_page s.g_desk_other s.g_desk_store s.o_sheet s.g_seed s.g_fresh s.g_shelf_store 7 s.g_shelf_draft s.g_shelf_coming s.g_shelf_bytes s.n_sheet_dots s.g_sheet_dots s.o_lines s.o_job s.g_pages s.g_lines_whiteRests s.g_lines_blackRests s.g_lines_whiteBlocks s.g_lines_blackBlocks s.g_lines_blocks s.g_lines_modes s.g_lines_line s.g_lines_above s.n_lines_out s.g_lines_out s.g_job_file s.g_job_places s.g_job_lengths v0).map (fun u => (((u.1, u.2.2.2.2.2.2.2.2.2.2.2.2.2.2.2.2.2.2.2.2.2.2.2.2.2.2.2.2.2.2.2.2.2.2.2.1, u.2.2.2.2.2.2.2.2.2.2.2.2.2.2.2.2.2.2.2.2.2.2.2.2.2.2.2.1, s.g_shownPages, s.g_tape, u.2.2.2.2.2.2.2.2.2.2.2.2.2.2.2.2.2.2.2.2.2.2.2.2.2.2.1, u.2.2.2.1, u.2.2.2.2.1, u.2.2.2.2.2.1, u.2.2.2.2.2.2.1, s.g_bytes2, s.g_bytes1), (u.2.2.2.2.2.2.2.2.2.2.2.2.2.2.2.2.2.2.2.2.2.2.2.2.2.2.2.2.2.2.2.2.2.2.1, u.2.2.2.2.2.2.2.2.2.2.2.2.2.2.2.2.2.2.2.2.2.2.2.2.2.2.2.2.2.2.2.2.2.2.2.2.2.2.2.1, u.2.2.2.2.2.2.2.2.2.2.2.2.2.2.2.2.2.2.2.2.2.2.2.2.2.2.2.2.2.2.2.2.2.2.2.2.2.2.2.2.1, u.2.2.2.2.2.2.2.2.2.2.2.2.2.2.2.2.2.2.2.2.2.2.2.2.2.2.2.2.2.2.2.2.2.2.2.2.2.2.2.2.2), (u.2.2.2.2.2.2.2.2.2.2.2.2.2.2.2.2.2.2.2.2.2.2.2.2.2.2.2.2.2.2.2.2.2.1, s.n_lines_out, u.2.2.2.2.2.2.2.2.2.2.2.2.2.2.2.2.2.2.2.2.2.2.2.2.2.2.2.2.2.2.2.2.2.2.2.2.2.2.1, u.2.2.2.2.2.2.2.2.2.2.2.2.2.2.2.2.2.2.2.2.2.2.2.2.2.2.2.2.2.2.2.2.2.2.2.2.1, u.2.2.2.2.2.2.2.2.2.2.2.2.2.2.2.2.2.2.2.2.2.2.2.2.2.2.2.2.2.2.2.2.2.2.2.2.2.1, s.g_lines_whiteRests, s.g_lines_blackRests, s.g_lines_whiteBlocks, s.g_lines_blackBlocks, s.g_lines_blocks, s.g_lines_modes, s.g_lines_readAbove, s.g_lines_readLine), (u.2.2.2.2.2.2.2.2.2.2.2.2.2.2.2.2.2.2.2.2.2.2.2.2.2.1, s.n_sheet_dots, u.2.2.2.2.2.2.2.2.2.2.2.2.2.2.2.2.2.2.2.2.2.2.2.2.2.2.2.2.2.2.2.2.1), (u.2.1, u.2.2.2.2.2.2.2.2.2.2.2.1, s.g_desk_isKept, u.2.2.2.2.2.2.2.2.2.2.2.2.2.2.2.2.2.2.2.2.1, u.2.2.2.2.2.2.2.2.2.2.2.2.2.2.2.2.2.2.2.2.2.2.2.2.1, u.2.2.2.2.2.2.2.2.2.2.2.2.2.2.2.2.2.2.2.2.2.2.1, u.2.2.2.2.2.2.2.2.2.2.2.2.2.2.2.2.2.2.2.2.2.2.2.1, u.2.2.2.2.2.2.2.2.2.2.2.2.2.2.2.2.2.2.2.2.2.1, s.g_desk_kept), (u.2.2.2.2.2.2.2.2.2.2.2.2.1, u.2.2.2.2.2.2.2.2.2.2.2.2.2.1, u.2.2.2.2.2.2.2.2.2.2.2.2.2.2.1, u.2.2.2.2.2.2.2.2.2.2.2.2.2.2.2.1, u.2.2.2.2.2.2.2.2.2.2.2.2.2.2.2.2.1, u.2.2.2.2.2.2.2.2.2.2.2.2.2.2.2.2.2.2.2.2.2.2.2.2.2.2.2.2.1, u.2.2.2.2.2.2.2.2.2.2.2.2.2.2.2.2.2.2.2.2.2.2.2.2.2.2.2.2.2.1, u.2.2.2.2.2.2.2.2.2.2.2.2.2.2.2.2.2.1, u.2.2.2.2.2.2.2.2.2.2.2.2.2.2.2.2.2.2.1, u.2.2.2.2.2.2.2.2.2.2.2.2.2.2.2.2.2.2.2.2.2.2.2.2.2.2.2.2.2.2.1, u.2.2.2.2.2.2.2.2.2.2.2.2.2.2.2.2.2.2.2.2.2.2.2.2.2.2.2.2.2.2.2.1, u.2.2.2.2.2.2.2.2.2.2.2.2.2.2.2.2.2.2.2.1), (u.2.2.1, u.2.2.2.2.2.2.2.1, u.2.2.2.2.2.2.2.2.1, u.2.2.2.2.2.2.2.2.2.1, u.2.2.2.2.2.2.2.2.2.2.1, s.g_macros_buffer), s.2.2.2.2.2.2.2.1, s.2.2.2.2.2.2.2.2.1, s.2.2.2.2.2.2.2.2.2) : RS))

def mRun1 (N : Nat) (s : RS) (v0 : Int32) (v2 : Int32) : Option (RS) := (ex_Ref_run_c1 N s.o_this s.g_bytes2 s.o_macros s.g_macros_lengths s.g_macros_store s.o_desk s.o_shelf s.o_sheet s.o_lines s.o_job s.g_pages s.g_seed s.g_fresh s.g_xWhat s.g_xId s.g_toDo s.g_toDoId s.g_desk_state s.g_desk_steps s.g_desk_glyph s.g_desk_page s.g_desk_other s.g_desk_store s.g_macros_ids s.g_macros_permanent s.g_shelf_ids s.g_shelf_attributes s.g_shelf_permanent s.g_shelf_glyph s.g_shelf_store 7 s.g_shelf_draft 14 s.g_shelf_wishes 2 s.g_shelf_pins s.g_shelf_coming s.g_shelf_bytes s.g_shelf_left s.n_sheet_dots s.g_sheet_dots s.g_lines_whiteRests s.g_lines_blackRests s.g_lines_whiteBlocks s.g_lines_blackBlocks s.g_lines_blocks s.g_lines_modes s.g_lines_line s.g_lines_above s.n_lines_out s.g_lines_out s.g_job_file s.g_job_places s.g_job_lengths s.g_desk_kept s.g_desk_isKept v0 v2).map (fun u => (((u.1, u.2.2.2.2.2.2.2.2.2.2.1, u.2.2.2.2.2.2.2.2.2.2.2.2.1, s.g_shownPages, s.g_tape, u.2.2.2.2.2.2.2.2.2.2.2.1, u.2.2.2.2.2.2.2.2.2.2.2.2.2.1, u.2.2.2.2.2.2.2.2.2.2.2.2.2.2.1, u.2.2.2.2.2.2.2.2.2.2.2.2.2.2.2.1, u.2.2.2.2.2.2.2.2.2.2.2.2.2.2.2.2.1, u.2.1, s.g_bytes1), (u.2.2.2.2.2.2.2.2.2.1, u.2.2.2.2.2.2.2.2.2.2.2.2.2.2.2.2.2.2.2.2.2.2.2.2.2.2.2.2.2.2.2.2.2.2.2.2.2.2.2.2.1, u.2.2.2.2.2.2.2.2.2.2.2.2.2.2.2.2.2.2.2.2.2.2.2.2.2.2.2.2.2.2.2.2.2.2.2.2.2.2.2.2.2.1, u.2.2.2.2.2.2.2.2.2.2.2.2.2.2.2.2.2.2.2.2.2.2.2.2.2.2.2.2.2.2.2.2.2.2.2.2.2.2.2.2.2.2.1), (u.2.2.2.2.2.2.2.2.1, s.n_lines_out, u.2.2.2.2.2.2.2.2.2.2.2.2.2.2.2.2.2.2.2.2.2.2.2.2.2.2.2.2.2.2.2.2.2.2.2.2.2.2.2.1, u.2.2.2.2.2.2.2.2.2.2.2.2.2.2.2.2.2.2.2.2.2.2.2.2.2.2.2.2.2.2.2.2.2.2.2.2.2.1, u.2.2.2.2.2.2.2.2.2.2.2.2.2.2.2.2.2.2.2.2.2.2.2.2.2.2.2.2.2.2.2.2.2.2.2.2.2.2.1, s.g_lines_whiteRests, s.g_lines_blackRests, s.g_lines_whiteBlocks, s.g_lines_blackBlocks, s.g_lines_blocks, s.g_lines_modes, s.g_lines_readAbove, s.g_lines_readLine), (u.2.2.2.2.2.2.2.1, s.n_sheet_dots, u.2.2.2.2.2.2.2.2.2.2.2.2.2.2.2.2.2.2.2.2.2.2.2.2.2.2.2.2.2.2.2.2.2.2.2.2.1), (u.2.2.2.2.2.1, u.2.2.2.2.2.2.2.2.2.2.2.2.2.2.2.2.2.1, u.2.2.2.2.2.2.2.2.2.2.2.2.2.2.2.2.2.2.2.2.2.2.2.2.2.2.2.2.2.2.2.2.2.2.2.2.2.2.2.2.2.2.2.2, u.2.2.2.2.2.2.2.2.2.2.2.2.2.2.2.2.2.2.1, u.2.2.2.2.2.2.2.2.2.2.2.2.2.2.2.2.2.2.2.2.2.2.1, u.2.2.2.2.2.2.2.2.2.2.2.2.2.2.2.2.2.2.2.2.1, u.2.2.2.2.2.2.2.2.2.2.2.2.2.2.2.2.2.2.2.2.2.1, u.2.2.2.2.2.2.2.2.2.2.2.2.2.2.2.2.2.2.2.1, u.2.2.2.2.2.2.2.2.2.2.2.2.2.2.2.2.2.2.2.2.2.2.2.2.2.2.2.2.2.2.2.2.2.2.2.2.2.2.2.2.2.2.2.1), (u.2.2.2.2.2.2.1, u.2.2.2.2.2.2.2.2.2.2.2.2.2.2.2.2.2.2.2.2.2.2.2.2.2.1, u.2.2.2.2.2.2.2.2.2.2.2.2.2.2.2.2.2.2.2.2.2.2.2.2.2.2.1, u.2.2.2.2.2.2.2.2.2.2.2.2.2.2.2.2.2.2.2.2.2.2.2.2.2.2.2.1, u.2.2.2.2.2.2.2.2.2.2.2.2.2.2.2.2.2.2.2.2.2.2.2.2.2.2.2.2.1, u.2.2.2.2.2.2.2.2.2.2.2.2.2.2.2.2.2.2.2.2.2.2.2.2.2.2.2.2.2.1, u.2.2.2.2.2.2.2.2.2.2.2.2.2.2.2.2.2.2.2.2.2.2.2.2.2.2.2.2.2.2.1, u.2.2.2.2.2.2.2.2.2.2.2.2.2.2.2.2.2.2.2.2.2.2.2.2.2.2.2.2.2.2.2.1, u.2.2.2.2.2.2.2.2.2.2.2.2.2.2.2.2.2.2.2.2.2.2.2.2.2.2.2.2.2.2.2.2.1, u.2.2.2.2.2.2.2.2.2.2.2.2.2.2.2.2.2.2.2.2.2.2.2.2.2.2.2.2.2.2.2.2.2.1, u.2.2.2.2.2.2.2.2.2.2.2.2.2.2.2.2.2.2.2.2.2.2.2.2.2.2.2.2.2.2.2.2.2.2.1, u.2.2.2.2.2.2.2.2.2.2.2.2.2.2.2.2.2.2.2.2.2.2.2.2.2.2.2.2.2.2.2.2.2.2.2.1), (u.2.2.1, u.2.2.2.2.2.2.2.2.2.2.2.2.2.2.2.2.2.2.2.2.2.2.2.1, u.2.2.2.2.2.2.2.2.2.2.2.2.2.2.2.2.2.2.2.2.2.2.2.2.1, u.2.2.2.1, u.2.2.2.2.1, s.g_macros_buffer), s.2.2.2.2.2.2.2.1, s.2.2.2.2.2.2.2.2.1, s.2.2.2.2.2.2.2.2.2) : RS))

def mMacro1 (N : Nat) (s : RS) (v0 : Int32) (v1 : Int32) : Option (RS) := (ex_Ref_macro_c1 N s.o_this s.o_macros s.g_macros_ids s.g_macros_lengths s.o_desk s.o_shelf s.o_sheet s.o_lines s.o_job s.g_pages s.g_seed s.g_fresh s.g_xWhat s.g_xId s.g_toDo s.g_toDoId s.g_bytes2 s.g_macros_permanent s.g_macros_store s.g_desk_state s.g_desk_kept s.g_desk_isKept s.g_desk_steps s.g_desk_glyph s.g_desk_page s.g_desk_other s.g_desk_store s.g_shelf_ids s.g_shelf_attributes s.g_shelf_permanent s.g_shelf_glyph s.g_shelf_store 7 s.g_shelf_draft 14 s.g_shelf_wishes 2 s.g_shelf_pins s.g_shelf_coming s.g_shelf_bytes s.g_shelf_left s.n_sheet_dots s.g_sheet_dots s.g_lines_whiteRests s.g_lines_blackRests s.g_lines_whiteBlocks s.g_lines_blackBlocks s.g_lines_blocks s.g_lines_modes s.g_lines_line s.g_lines_above s.n_lines_out s.g_lines_out s.g_job_file s.g_job_places s.g_job_lengths v0 v1).map (fun u => (((u.1, u.2.2.2.2.2.2.2.2.2.1, u.2.2.2.2.2.2.2.2.2.2.2.1, s.g_shownPages, s.g_tape, u.2.2.2.2.2.2.2.2.2.2.1, u.2.2.2.2.2.2.2.2.2.2.2.2.1, u.2.2.2.2.2.2.2.2.2.2.2.2.2.1, u.2.2.2.2.2.2.2.2.2.2.2.2.2.2.1, u.2.2.2.2.2.2.2.2.2.2.2.2.2.2.2.1, u.2.2.2.2.2.2.2.2.2.2.2.2.2.2.2.2.1, s.g_bytes1), (u.2.2.2.2.2.2.2.2.1, u.2.2.2.2.2.2.2.2.2.2.2.2.2.2.2.2.2.2.2.2.2.2.2.2.2.2.2.2.2.2.2.2.2.2.2.2.2.2.2.2.2.2.1, u.2.2.2.2.2.2.2.2.2.2.2.2.2.2.2.2.2.2.2.2.2.2.2.2.2.2.2.2.2.2.2.2.2.2.2.2.2.2.2.2.2.2.2.1, u.2.2.2.2.2.2.2.2.2.2.2.2.2.2.2.2.2.2.2.2.2.2.2.2.2.2.2.2.2.2.2.2.2.2.2.2.2.2.2.2.2.2.2.2), (u.2.2.2.2.2.2.2.1, s.n_lines_out, u.2.2.2.2.2.2.2.2.2.2.2.2.2.2.2.2.2.2.2.2.2.2.2.2.2.2.2.2.2.2.2.2.2.2.2.2.2.2.2.2.2.1, u.2.2.2.2.2.2.2.2.2.2.2.2.2.2.2.2.2.2.2.2.2.2.2.2.2.2.2.2.2.2.2.2.2.2.2.2.2.2.2.1, u.2.2.2.2.2.2.2.2.2.2.2.2.2.2.2.2.2.2.2.2.2.2.2.2.2.2.2.2.2.2.2.2.2.2.2.2.2.2.2.2.1, s.g_lines_whiteRests, s.g_lines_blackRests, s.g_lines_whiteBlocks, s.g_lines_blackBlocks, s.g_lines_blocks, s.g_lines_modes, s.g_lines_readAbove, s.g_lines_readLine), (u.2.2.2.2.2.2.1, s.n_sheet_dots, u.2.2.2.2.2.2.2.2.2.2.2.2.2.2.2.2.2.2.2.2.2.2.2.2.2.2.2.2.2.2.2.2.2.2.2.2.2.2.1), (u.2.2.2.2.1, u.2.2.2.2.2.2.2.2.2.2.2.2.2.2.2.2.2.2.2.1, u.2.2.2.2.2.2.2.2.2.2.2.2.2.2.2.2.2.2.2.2.2.1, u.2.2.2.2.2.2.2.2.2.2.2.2.2.2.2.2.2.2.2.2.2.2.1, u.2.2.2.2.2.2.2.2.2.2.2.2.2.2.2.2.2.2.2.2.2.2.2.2.2.2.1, u.2.2.2.2.2.2.2.2.2.2.2.2.2.2.2.2.2.2.2.2.2.2.2.2.1, u.2.2.2.2.2.2.2.2.2.2.2.2.2.2.2.2.2.2.2.2.2.2.2.2.2.1, u.2.2.2.2.2.2.2.2.2.2.2.2.2.2.2.2.2.2.2.2.2.2.2.1, u.2.2.2.2.2.2.2.2.2.2.2.2.2.2.2.2.2.2.2.2.1), (u.2.2.2.2.2.1, u.2.2.2.2.2.2.2.2.2.2.2.2.2.2.2.2.2.2.2.2.2.2.2.2.2.2.2.1, u.2.2.2.2.2.2.2.2.2.2.2.2.2.2.2.2.2.2.2.2.2.2.2.2.2.2.2.2.1, u.2.2.2.2.2.2.2.2.2.2.2.2.2.2.2.2.2.2.2.2.2.2.2.2.2.2.2.2.2.1, u.2.2.2.2.2.2.2.2.2.2.2.2.2.2.2.2.2.2.2.2.2.2.2.2.2.2.2.2.2.2.1, u.2.2.2.2.2.2.2.2.2.2.2.2.2.2.2.2.2.2.2.2.2.2.2.2.2.2.2.2.2.2.2.1, u.2.2.2.2.2.2.2.2.2.2.2.2.2.2.2.2.2.2.2.2.2.2.2.2.2.2.2.2.2.2.2.2.1, u.2.2.2.2.2.2.2.2.2.2.2.2.2.2.2.2.2.2.2.2.2.2.2.2.2.2.2.2.2.2.2.2.2.1, u.2.2.2.2.2.2.2.2.2.2.2.2.2.2.2.2.2.2.2.2.2.2.2.2.2.2.2.2.2.2.2.2.2.2.1, u.2.2.2.2.2.2.2.2.2.2.2.2.2.2.2.2.2.2.2.2.2.2.2.2.2.2.2.2.2.2.2.2.2.2.2.1, u.2.2.2.2.2.2.2.2.2.2.2.2.2.2.2.2.2.2.2.2.2.2.2.2.2.2.2.2.2.2.2.2.2.2.2.2.1, u.2.2.2.2.2.2.2.2.2.2.2.2.2.2.2.2.2.2.2.2.2.2.2.2.2.2.2.2.2.2.2.2.2.2.2.2.2.1), (u.2.1, u.2.2.1, u.2.2.2.2.2.2.2.2.2.2.2.2.2.2.2.2.2.1, u.2.2.2.1, u.2.2.2.2.2.2.2.2.2.2.2.2.2.2.2.2.2.2.1, s.g_macros_buffer), s.2.2.2.2.2.2.2.1, s.2.2.2.2.2.2.2.2.1, s.2.2.2.2.2.2.2.2.2) : RS))

def mWork1 (N : Nat) (s : RS) : Option (RS) := (ex_Ref_work_c1 N s.o_this s.g_toDo s.g_xWhat s.g_toDoId s.g_xId s.o_desk s.o_shelf s.o_macros s.o_sheet s.o_lines s.o_job s.g_pages s.g_seed s.g_fresh s.g_bytes2 s.g_macros_ids s.g_macros_permanent s.g_macros_lengths s.g_macros_store s.g_desk_state s.g_desk_kept s.g_desk_isKept s.g_desk_steps s.g_desk_glyph s.g_desk_page s.g_desk_other s.g_desk_store s.g_shelf_ids s.g_shelf_attributes s.g_shelf_permanent s.g_shelf_glyph s.g_shelf_store 7 s.g_shelf_draft 14 s.g_shelf_wishes 2 s.g_shelf_pins s.g_shelf_coming s.g_shelf_bytes s.g_shelf_left s.n_sheet_dots s.g_sheet_dots s.g_lines_whiteRests s.g_lines_blackRests s.g_lines_whiteBlocks s.g_lines_blackBlocks s.g_lines_blocks s.g_lines_modes s.g_lines_line s.g_lines_above s.n_lines_out s.g_lines_out s.g_job_file s.g_job_places s.g_job_lengths).map (fun u => (((u.1, u.2.2.2.2.2.2.2.2.2.2.2.1, u.2.2.2.2.2.2.2.2.2.2.2.2.2.1, s.g_shownPages, s.g_tape, u.2.2.2.2.2.2.2.2.2.2.2.2.1, u.2.2.1, u.2.2.2.2.1, u.2.1, u.2.2.2.1, u.2.2.2.2.2.2.2.2.2.2.2.2.2.2.1, s.g_bytes1), (u.2.2.2.2.2.2.2.2.2.2.1, u.2.2.2.2.2.2.2.2.2.2.2.2.2.2.2.2.2.2.2.2.2.2.2.2.2.2.2.2.2.2.2.2.2.2.2.2.2.2.2.2.2.2.1, u.2.2.2.2.2.2.2.2.2.2.2.2.2.2.2.2.2.2.2.2.2.2.2.2.2.2.2.2.2.2.2.2.2.2.2.2.2.2.2.2.2.2.2.1, u.2.2.2.2.2.2.2.2.2.2.2.2.2.2.2.2.2.2.2.2.2.2.2.2.2.2.2.2.2.2.2.2.2.2.2.2.2.2.2.2.2.2.2.2), (u.2.2.2.2.2.2.2.2.2.1, s.n_lines_out, u.2.2.2.2.2.2.2.2.2.2.2.2.2.2.2.2.2.2.2.2.2.2.2.2.2.2.2.2.2.2.2.2.2.2.2.2.2.2.2.2.2.1, u.2.2.2.2.2.2.2.2.2.2.2.2.2.2.2.2.2.2.2.2.2.2.2.2.2.2.2.2.2.2.2.2.2.2.2.2.2.2.2.1, u.2.2.2.2.2.2.2.2.2.2.2.2.2.2.2.2.2.2.2.2.2.2.2.2.2.2.2.2.2.2.2.2.2.2.2.2.2.2.2.2.1, s.g_lines_whiteRests, s.g_lines_blackRests, s.g_lines_whiteBlocks, s.g_lines_blackBlocks, s.g_lines_blocks, s.g_lines_modes, s.g_lines_readAbove, s.g_lines_readLine), (u.2.2.2.2.2.2.2.2.1, s.n_sheet_dots, u.2.2.2.2.2.2.2.2.2.2.2.2.2.2.2.2.2.2.2.2.2.2.2.2.2.2.2.2.2.2.2.2.2.2.2.2.2.2.1), (u.2.2.2.2.2.1, u.2.2.2.2.2.2.2.2.2.2.2.2.2.2.2.2.2.2.2.1, u.2.2.2.2.2.2.2.2.2.2.2.2.2.2.2.2.2.2.2.2.2.1, u.2.2.2.2.2.2.2.2.2.2.2.2.2.2.2.2.2.2.2.2.2.2.1, u.2.2.2.2.2.2.2.2.2.2.2.2.2.2.2.2.2.2.2.2.2.2.2.2.2.2.1, u.2.2.2.2.2.2.2.2.2.2.2.2.2.2.2.2.2.2.2.2.2.2.2.2.1, u.2.2.2.2.2.2.2.2.2.2.2.2.2.2.2.2.2.2.2.2.2.2.2.2.2.1, u.2.2.2.2.2.2.2.2.2.2.2.2.2.2.2.2.2.2.2.2.2.2.2.1, u.2.2.2.2.2.2.2.2.2.2.2.2.2.2.2.2.2.2.2.2.1), (u.2.2.2.2.2.2.1, u.2.2.2.2.2.2.2.2.2.2.2.2.2.2.2.2.2.2.2.2.2.2.2.2.2.2.2.1, u.2.2.2.2.2.2.2.2.2.2.2.2.2.2.2.2.2.2.2.2.2.2.2.2.2.2.2.2.1, u.2.2.2.2.2.2.2.2.2.2.2.2.2.2.2.2.2.2.2.2.2.2.2.2.2.2.2.2.2.1, u.2.2.2.2.2.2.2.2.2.2.2.2.2.2.2.2.2.2.2.2.2.2.2.2.2.2.2.2.2.2.1, u.2.2.2.2.2.2.2.2.2.2.2.2.2.2.2.2.2.2.2.2.2.2.2.2.2.2.2.2.2.2.2.1, u.2.2.2.2.2.2.2.2.2.2.2.2.2.2.2.2.2.2.2.2.2.2.2.2.2.2.2.2.2.2.2.2.1, u.2.2.2.2.2.2.2.2.2.2.2.2.2.2.2.2.2.2.2.2.2.2.2.2.2.2.2.2.2.2.2.2.2.1, u.2.2.2.2.2.2.2.2.2.2.2.2.2.2.2.2.2.2.2.2.2.2.2.2.2.2.2.2.2.2.2.2.2.2.1, u.2.2.2.2.2.2.2.2.2.2.2.2.2.2.2.2.2.2.2.2.2.2.2.2.2.2.2.2.2.2.2.2.2.2.2.1, u.2.2.2.2.2.2.2.2.2.2.2.2.2.2.2.2.2.2.2.2.2.2.2.2.2.2.2.2.2.2.2.2.2.2.2.2.1, u.2.2.2.2.2.2.2.2.2.2.2.2.2.2.2.2.2.2.2.2.2.2.2.2.2.2.2.2.2.2.2.2.2.2.2.2.2.1), (u.2.2.2.2.2.2.2.1, u.2.2.2.2.2.2.2.2.2.2.2.2.2.2.2.1, u.2.2.2.2.2.2.2.2.2.2.2.2.2.2.2.2.1, u.2.2.2.2.2.2.2.2.2.2.2.2.2.2.2.2.2.1, u.2.2.2.2.2.2.2.2.2.2.2.2.2.2.2.2.2.2.1, s.g_macros_buffer), s.2.2.2.2.2.2.2.1, s.2.2.2.2.2.2.2.2.1, s.2.2.2.2.2.2.2.2.2) : RS))

def mComes1 (N : Nat) (s : RS) (v0 : Int32) : Option (RS) := (ex_Ref_comes_c1 N s.o_this s.o_desk s.o_shelf s.o_macros s.o_sheet s.o_lines s.o_job s.g_pages s.g_seed s.g_fresh s.g_xWhat s.g_xId s.g_toDo s.g_toDoId s.g_bytes2 s.g_desk_state s.g_desk_kept s.g_desk_isKept s.g_desk_steps s.g_desk_glyph s.g_desk_page s.g_desk_other s.g_desk_store s.g_shelf_ids s.g_shelf_attributes s.g_shelf_permanent s.g_shelf_glyph s.g_shelf_store 7 s.g_shelf_draft 14 s.g_shelf_wishes 2 s.g_shelf_pins s.g_shelf_coming s.g_shelf_bytes s.g_shelf_left s.g_macros_ids s.g_macros_permanent s.g_macros_lengths s.g_macros_store s.n_sheet_dots s.g_sheet_dots s.g_lines_whiteRests s.g_lines_blackRests s.g_lines_whiteBlocks s.g_lines_blackBlocks s.g_lines_blocks s.g_lines_modes s.g_lines_line s.g_lines_above s.n_lines_out s.g_lines_out s.g_job_file s.g_job_places s.g_job_lengths v0).map (fun u => (((u.1, u.2.2.2.2.2.2.2.1, u.2.2.2.2.2.2.2.2.2.1, s.g_shownPages, s.g_tape, u.2.2.2.2.2.2.2.2.1, u.2.2.2.2.2.2.2.2.2.2.1, u.2.2.2.2.2.2.2.2.2.2.2.1, u.2.2.2.2.2.2.2.2.2.2.2.2.1, u.2.2.2.2.2.2.2.2.2.2.2.2.2.1, u.2.2.2.2.2.2.2.2.2.2.2.2.2.2.1, s.g_bytes1), (u.2.2.2.2.2.2.1, u.2.2.2.2.2.2.2.2.2.2.2.2.2.2.2.2.2.2.2.2.2.2.2.2.2.2.2.2.2.2.2.2.2.2.2.2.2.2.2.2.2.2.1, u.2.2.2.2.2.2.2.2.2.2.2.2.2.2.2.2.2.2.2.2.2.2.2.2.2.2.2.2.2.2.2.2.2.2.2.2.2.2.2.2.2.2.2.1, u.2.2.2.2.2.2.2.2.2.2.2.2.2.2.2.2.2.2.2.2.2.2.2.2.2.2.2.2.2.2.2.2.2.2.2.2.2.2.2.2.2.2.2.2), (u.2.2.2.2.2.1, s.n_lines_out, u.2.2.2.2.2.2.2.2.2.2.2.2.2.2.2.2.2.2.2.2.2.2.2.2.2.2.2.2.2.2.2.2.2.2.2.2.2.2.2.2.2.1, u.2.2.2.2.2.2.2.2.2.2.2.2.2.2.2.2.2.2.2.2.2.2.2.2.2.2.2.2.2.2.2.2.2.2.2.2.2.2.2.1, u.2.2.2.2.2.2.2.2.2.2.2.2.2.2.2.2.2.2.2.2.2.2.2.2.2.2.2.2.2.2.2.2.2.2.2.2.2.2.2.2.1, s.g_lines_whiteRests, s.g_lines_blackRests, s.g_lines_whiteBlocks, s.g_lines_blackBlocks, s.g_lines_blocks, s.g_lines_modes, s.g_lines_readAbove, s.g_lines_readLine), (u.2.2.2.2.1, s.n_sheet_dots, u.2.2.2.2.2.2.2.2.2.2.2.2.2.2.2.2.2.2.2.2.2.2.2.2.2.2.2.2.2.2.2.2.2.2.2.2.2.2.1), (u.2.1, u.2.2.2.2.2.2.2.2.2.2.2.2.2.2.2.1, u.2.2.2.2.2.2.2.2.2.2.2.2.2.2.2.2.2.1, u.2.2.2.2.2.2.2.2.2.2.2.2.2.2.2.2.2.2.1, u.2.2.2.2.2.2.2.2.2.2.2.2.2.2.2.2.2.2.2.2.2.2.1, u.2.2.2.2.2.2.2.2.2.2.2.2.2.2.2.2.2.2.2.2.1, u.2.2.2.2.2.2.2.2.2.2.2.2.2.2.2.2.2.2.2.2.2.1, u.2.2.2.2.2.2.2.2.2.2.2.2.2.2.2.2.2.2.2.1, u.2.2.2.2.2.2.2.2.2.2.2.2.2.2.2.2.1), (u.2.2.1, u.2.2.2.2.2.2.2.2.2.2.2.2.2.2.2.2.2.2.2.2.2.2.2.1, u.2.2.2.2.2.2.2.2.2.2.2.2.2.2.2.2.2.2.2.2.2.2.2.2.1, u.2.2.2.2.2.2.2.2.2.2.2.2.2.2.2.2.2.2.2.2.2.2.2.2.2.1, u.2.2.2.2.2.2.2.2.2.2.2.2.2.2.2.2.2.2.2.2.2.2.2.2.2.2.1, u.2.2.2.2.2.2.2.2.2.2.2.2.2.2.2.2.2.2.2.2.2.2.2.2.2.2.2.1, u.2.2.2.2.2.2.2.2.2.2.2.2.2.2.2.2.2.2.2.2.2.2.2.2.2.2.2.2.1, u.2.2.2.2.2.2.2.2.2.2.2.2.2.2.2.2.2.2.2.2.2.2.2.2.2.2.2.2.2.1, u.2.2.2.2.2.2.2.2.2.2.2.2.2.2.2.2.2.2.2.2.2.2.2.2.2.2.2.2.2.2.1, u.2.2.2.2.2.2.2.2.2.2.2.2.2.2.2.2.2.2.2.2.2.2.2.2.2.2.2.2.2.2.2.1, u.2.2.2.2.2.2.2.2.2.2.2.2.2.2.2.2.2.2.2.2.2.2.2.2.2.2.2.2.2.2.2.2.1, u.2.2.2.2.2.2.2.2.2.2.2.2.2.2.2.2.2.2.2.2.2.2.2.2.2.2.2.2.2.2.2.2.2.1), (u.2.2.2.1, u.2.2.2.2.2.2.2.2.2.2.2.2.2.2.2.2.2.2.2.2.2.2.2.2.2.2.2.2.2.2.2.2.2.2.1, u.2.2.2.2.2.2.2.2.2.2.2.2.2.2.2.2.2.2.2.2.2.2.2.2.2.2.2.2.2.2.2.2.2.2.2.1, u.2.2.2.2.2.2.2.2.2.2.2.2.2.2.2.2.2.2.2.2.2.2.2.2.2.2.2.2.2.2.2.2.2.2.2.2.1, u.2.2.2.2.2.2.2.2.2.2.2.2.2.2.2.2.2.2.2.2.2.2.2.2.2.2.2.2.2.2.2.2.2.2.2.2.2.1, s.g_macros_buffer), s.2.2.2.2.2.2.2.1, s.2.2.2.2.2.2.2.2.1, s.2.2.2.2.2.2.2.2.2) : RS))

def mRun0 (N : Nat) (s : RS) (v0 : Int32) (v2 : Int32) : Option (RS) := (ex_Ref_run_c0 N s.o_this s.g_bytes1 s.o_macros s.g_macros_lengths s.g_macros_store s.o_desk s.o_shelf s.o_sheet s.o_lines s.o_job s.g_pages s.g_seed s.g_fresh s.g_xWhat s.g_xId s.g_toDo s.g_toDoId s.g_bytes2 s.g_desk_state s.g_desk_kept s.g_desk_isKept s.g_desk_steps s.g_desk_glyph s.g_desk_page s.g_desk_other s.g_desk_store s.g_shelf_ids s.g_shelf_attributes s.g_shelf_permanent s.g_shelf_glyph s.g_shelf_store 7 s.g_shelf_draft 14 s.g_shelf_wishes 2 s.g_shelf_pins s.g_shelf_coming s.g_shelf_bytes s.g_shelf_left s.g_macros_ids s.g_macros_permanent s.n_sheet_dots s.g_sheet_dots s.g_lines_whiteRests s.g_lines_blackRests s.g_lines_whiteBlocks s.g_lines_blackBlocks s.g_lines_blocks s.g_lines_modes s.g_lines_line s.g_lines_above s.n_lines_out s.g_lines_out s.g_job_file s.g_job_places s.g_job_lengths v0 v2).map (fun u => (((u.1, u.2.2.2.2.2.2.2.2.2.2.1, u.2.2.2.2.2.2.2.2.2.2.2.2.1, s.g_shownPages, s.g_tape, u.2.2.2.2.2.2.2.2.2.2.2.1, u.2.2.2.2.2.2.2.2.2.2.2.2.2.1, u.2.2.2.2.2.2.2.2.2.2.2.2.2.2.1, u.2.2.2.2.2.2.2.2.2.2.2.2.2.2.2.1, u.2.2.2.2.2.2.2.2.2.2.2.2.2.2.2.2.1, u.2.2.2.2.2.2.2.2.2.2.2.2.2.2.2.2.2.1, u.2.1), (u.2.2.2.2.2.2.2.2.2.1, u.2.2.2.2.2.2.2.2.2.2.2.2.2.2.2.2.2.2.2.2.2.2.2.2.2.2.2.2.2.2.2.2.2.2.2.2.2.2.2.2.2.2.2.1, u.2.2.2.2.2.2.2.2.2.2.2.2.2.2.2.2.2.2.2.2.2.2.2.2.2.2.2.2.2.2.2.2.2.2.2.2.2.2.2.2.2.2.2.2.1, u.2.2.2.2.2.2.2.2.2.2.2.2.2.2.2.2.2.2.2.2.2.2.2.2.2.2.2.2.2.2.2.2.2.2.2.2.2.2.2.2.2.2.2.2.2), (u.2.2.2.2.2.2.2.2.1, s.n_lines_out, u.2.2.2.2.2.2.2.2.2.2.2.2.2.2.2.2.2.2.2.2.2.2.2.2.2.2.2.2.2.2.2.2.2.2.2.2.2.2.2.2.2.2.1, u.2.2.2.2.2.2.2.2.2.2.2.2.2.2.2.2.2.2.2.2.2.2.2.2.2.2.2.2.2.2.2.2.2.2.2.2.2.2.2.2.1, u.2.2.2.2.2.2.2.2.2.2.2.2.2.2.2.2.2.2.2.2.2.2.2.2.2.2.2.2.2.2.2.2.2.2.2.2.2.2.2.2.2.1, s.g_lines_whiteRests, s.g_lines_blackRests, s.g_lines_whiteBlocks, s.g_lines_blackBlocks, s.g_lines_blocks, s.g_lines_modes, s.g_lines_readAbove, s.g_lines_readLine), (u.2.2.2.2.2.2.2.1, s.n_sheet_dots, u.2.2.2.2.2.2.2.2.2.2.2.2.2.2.2.2.2.2.2.2.2.2.2.2.2.2.2.2.2.2.2.2.2.2.2.2.2.2.2.1), (u.2.2.2.2.2.1, u.2.2.2.2.2.2.2.2.2.2.2.2.2.2.2.2.2.2.1, u.2.2.2.2.2.2.2.2.2.2.2.2.2.2.2.2.2.2.2.2.1, u.2.2.2.2.2.2.2.2.2.2.2.2.2.2.2.2.2.2.2.2.2.1, u.2.2.2.2.2.2.2.2.2.2.2.2.2.2.2.2.2.2.2.2.2.2.2.2.2.1, u.2.2.2.2.2.2.2.2.2.2.2.2.2.2.2.2.2.2.2.2.2.2.2.1, u.2.2.2.2.2.2.2.2.2.2.2.2.2.2.2.2.2.2.2.2.2.2.2.2.1, u.2.2.2.2.2.2.2.2.2.2.2.2.2.2.2.2.2.2.2.2.2.2.1, u.2.2.2.2.2.2.2.2.2.2.2.2.2.2.2.2.2.2.2.1), (u.2.2.2.2.2.2.1, u.2.2.2.2.2.2.2.2.2.2.2.2.2.2.2.2.2.2.2.2.2.2.2.2.2.2.1, u.2.2.2.2.2.2.2.2.2.2.2.2.2.2.2.2.2.2.2.2.2.2.2.2.2.2.2.1, u.2.2.2.2.2.2.2.2.2.2.2.2.2.2.2.2.2.2.2.2.2.2.2.2.2.2.2.2.1, u.2.2.2.2.2.2.2.2.2.2.2.2.2.2.2.2.2.2.2.2.2.2.2.2.2.2.2.2.2.1, u.2.2.2.2.2.2.2.2.2.2.2.2.2.2.2.2.2.2.2.2.2.2.2.2.2.2.2.2.2.2.1, u.2.2.2.2.2.2.2.2.2.2.2.2.2.2.2.2.2.2.2.2.2.2.2.2.2.2.2.2.2.2.2.1, u.2.2.2.2.2.2.2.2.2.2.2.2.2.2.2.2.2.2.2.2.2.2.2.2.2.2.2.2.2.2.2.2.1, u.2.2.2.2.2.2.2.2.2.2.2.2.2.2.2.2.2.2.2.2.2.2.2.2.2.2.2.2.2.2.2.2.2.1, u.2.2.2.2.2.2.2.2.2.2.2.2.2.2.2.2.2.2.2.2.2.2.2.2.2.2.2.2.2.2.2.2.2.2.1, u.2.2.2.2.2.2.2.2.2.2.2.2.2.2.2.2.2.2.2.2.2.2.2.2.2.2.2.2.2.2.2.2.2.2.2.1, u.2.2.2.2.2.2.2.2.2.2.2.2.2.2.2.2.2.2.2.2.2.2.2.2.2.2.2.2.2.2.2.2.2.2.2.2.1), (u.2.2.1, u.2.2.2.2.2.2.2.2.2.2.2.2.2.2.2.2.2.2.2.2.2.2.2.2.2.2.2.2.2.2.2.2.2.2.2.2.2.1, u.2.2.2.2.2.2.2.2.2.2.2.2.2.2.2.2.2.2.2.2.2.2.2.2.2.2.2.2.2.2.2.2.2.2.2.2.2.2.1, u.2.2.2.1, u.2.2.2.2.1, s.g_macros_buffer), s.2.2.2.2.2.2.2.1, s.2.2.2.2.2.2.2.2.1, s.2.2.2.2.2.2.2.2.2) : RS))

def mMacro0 (N : Nat) (s : RS) (v0 : Int32) (v1 : Int32) : Option (RS) := (ex_Ref_macro_c0 N s.o_this s.o_macros s.g_macros_ids s.g_macros_lengths s.o_desk s.o_shelf s.o_sheet s.o_lines s.o_job s.g_pages s.g_seed s.g_fresh s.g_xWhat s.g_xId s.g_toDo s.g_toDoId s.g_bytes1 s.g_bytes2 s.g_macros_permanent s.g_macros_store s.g_desk_state s.g_desk_kept s.g_desk_isKept s.g_desk_steps s.g_desk_glyph s.g_desk_page s.g_desk_other s.g_desk_store s.g_shelf_ids s.g_shelf_attributes s.g_shelf_permanent s.g_shelf_glyph s.g_shelf_store 7 s.g_shelf_draft 14 s.g_shelf_wishes 2 s.g_shelf_pins s.g_shelf_coming s.g_shelf_bytes s.g_shelf_left s.n_sheet_dots s.g_sheet_dots s.g_lines_whiteRests s.g_lines_blackRests s.g_lines_whiteBlocks s.g_lines_blackBlocks s.g_lines_blocks s.g_lines_modes s.g_lines_line s.g_lines_above s.n_lines_out s.g_lines_out s.g_job_file s.g_job_places s.g_job_lengths v0 v1).map (fun u => (((u.1, u.2.2.2.2.2.2.2.2.2.1, u.2.2.2.2.2.2.2.2.2.2.2.1, s.g_shownPages, s.g_tape, u.2.2.2.2.2.2.2.2.2.2.1, u.2.2.2.2.2.2.2.2.2.2.2.2.1, u.2.2.2.2.2.2.2.2.2.2.2.2.2.1, u.2.2.2.2.2.2.2.2.2.2.2.2.2.2.1, u.2.2.2.2.2.2.2.2.2.2.2.2.2.2.2.1, u.2.2.2.2.2.2.2.2.2.2.2.2.2.2.2.2.2.1, u.2.2.2.2.2.2.2.2.2.2.2.2.2.2.2.2.1), (u.2.2.2.2.2.2.2.2.1, u.2.2.2.2.2.2.2.2.2.2.2.2.2.2.2.2.2.2.2.2.2.2.2.2.2.2.2.2.2.2.2.2.2.2.2.2.2.2.2.2.2.2.2.1, u.2.2.2.2.2.2.2.2.2.2.2.2.2.2.2.2.2.2.2.2.2.2.2.2.2.2.2.2.2.2.2.2.2.2.2.2.2.2.2.2.2.2.2.2.1, u.2.2.2.2.2.2.2.2.2.2.2.2.2.2.2.2.2.2.2.2.2.2.2.2.2.2.2.2.2.2.2.2.2.2.2.2.2.2.2.2.2.2.2.2.2), (u.2.2.2.2.2.2.2.1, s.n_lines_out, u.2.2.2.2.2.2.2.2.2.2.2.2.2.2.2.2.2.2.2.2.2.2.2.2.2.2.2.2.2.2.2.2.2.2.2.2.2.2.2.2.2.2.1, u.2.2.2.2.2.2.2.2.2.2.2.2.2.2.2.2.2.2.2.2.2.2.2.2.2.2.2.2.2.2.2.2.2.2.2.2.2.2.2.2.1, u.2.2.2.2.2.2.2.2.2.2.2.2.2.2.2.2.2.2.2.2.2.2.2.2.2.2.2.2.2.2.2.2.2.2.2.2.2.2.2.2.2.1, s.g_lines_whiteRests, s.g_lines_blackRests, s.g_lines_whiteBlocks, s.g_lines_blackBlocks, s.g_lines_blocks, s.g_lines_modes, s.g_lines_readAbove, s.g_lines_readLine), (u.2.2.2.2.2.2.1, s.n_sheet_dots, u.2.2.2.2.2.2.2.2.2.2.2.2.2.2.2.2.2.2.2.2.2.2.2.2.2.2.2.2.2.2.2.2.2.2.2.2.2.2.2.1), (u.2.2.2.2.1, u.2.2.2.2.2.2.2.2.2.2.2.2.2.2.2.2.2.2.2.2.1, u.2.2.2.2.2.2.2.2.2.2.2.2.2.2.2.2.2.2.2.2.2.2.1, u.2.2.2.2.2.2.2.2.2.2.2.2.2.2.2.2.2.2.2.2.2.2.2.1, u.2.2.2.2.2.2.2.2.2.2.2.2.2.2.2.2.2.2.2.2.2.2.2.2.2.2.2.1, u.2.2.2.2.2.2.2.2.2.2.2.2.2.2.2.2.2.2.2.2.2.2.2.2.2.1, u.2.2.2.2.2.2.2.2.2.2.2.2.2.2.2.2.2.2.2.2.2.2.2.2.2.2.1, u.2.2.2.2.2.2.2.2.2.2.2.2.2.2.2.2.2.2.2.2.2.2.2.2.1, u.2.2.2.2.2.2.2.2.2.2.2.2.2.2.2.2.2.2.2.2.2.1), (u.2.2.2.2.2.1, u.2.2.2.2.2.2.2.2.2.2.2.2.2.2.2.2.2.2.2.2.2.2.2.2.2.2.2.2.1, u.2.2.2.2.2.2.2.2.2.2.2.2.2.2.2.2.2.2.2.2.2.2.2.2.2.2.2.2.2.1, u.2.2.2.2.2.2.2.2.2.2.2.2.2.2.2.2.2.2.2.2.2.2.2.2.2.2.2.2.2.2.1, u.2.2.2.2.2.2.2.2.2.2.2.2.2.2.2.2.2.2.2.2.2.2.2.2.2.2.2.2.2.2.2.1, u.2.2.2.2.2.2.2.2.2.2.2.2.2.2.2.2.2.2.2.2.2.2.2.2.2.2.2.2.2.2.2.2.1, u.2.2.2.2.2.2.2.2.2.2.2.2.2.2.2.2.2.2.2.2.2.2.2.2.2.2.2.2.2.2.2.2.2.1, u.2.2.2.2.2.2.2.2.2.2.2.2.2.2.2.2.2.2.2.2.2.2.2.2.2.2.2.2.2.2.2.2.2.2.1, u.2.2.2.2.2.2.2.2.2.2.2.2.2.2.2.2.2.2.2.2.2.2.2.2.2.2.2.2.2.2.2.2.2.2.2.1, u.2.2.2.2.2.2.2.2.2.2.2.2.2.2.2.2.2.2.2.2.2.2.2.2.2.2.2.2.2.2.2.2.2.2.2.2.1, u.2.2.2.2.2.2.2.2.2.2.2.2.2.2.2.2.2.2.2.2.2.2.2.2.2.2.2.2.2.2.2.2.2.2.2.2.2.1, u.2.2.2.2.2.2.2.2.2.2.2.2.2.2.2.2.2.2.2.2.2.2.2.2.2.2.2.2.2.2.2.2.2.2.2.2.2.2.1), (u.2.1, u.2.2.1, u.2.2.2.2.2.2.2.2.2.2.2.2.2.2.2.2.2.2.1, u.2.2.2.1, u.2.2.2.2.2.2.2.2.2.2.2.2.2.2.2.2.2.2.2.1, s.g_macros_buffer), s.2.2.2.2.2.2.2.1, s.2.2.2.2.2.2.2.2.1, s.2.2.2.2.2.2.2.2.2) : RS))

def mWork0 (N : Nat) (s : RS) : Option (RS) := (ex_Ref_work_c0 N s.o_this s.g_toDo s.g_xWhat s.g_toDoId s.g_xId s.o_desk s.o_shelf s.o_macros s.o_sheet s.o_lines s.o_job s.g_pages s.g_seed s.g_fresh s.g_bytes1 s.g_bytes2 s.g_macros_ids s.g_macros_permanent s.g_macros_lengths s.g_macros_store s.g_desk_state s.g_desk_kept s.g_desk_isKept s.g_desk_steps s.g_desk_glyph s.g_desk_page s.g_desk_other s.g_desk_store s.g_shelf_ids s.g_shelf_attributes s.g_shelf_permanent s.g_shelf_glyph s.g_shelf_store 7 s.g_shelf_draft 14 s.g_shelf_wishes 2 s.g_shelf_pins s.g_shelf_coming s.g_shelf_bytes s.g_shelf_left s.n_sheet_dots s.g_sheet_dots s.g_lines_whiteRests s.g_lines_blackRests s.g_lines_whiteBlocks s.g_lines_blackBlocks s.g_lines_blocks s.g_lines_modes s.g_lines_line s.g_lines_above s.n_lines_out s.g_lines_out s.g_job_file s.g_job_places s.g_job_lengths).map (fun u => (((u.1, u.2.2.2.2.2.2.2.2.2.2.2.1, u.2.2.2.2.2.2.2.2.2.2.2.2.2.1, s.g_shownPages, s.g_tape, u.2.2.2.2.2.2.2.2.2.2.2.2.1, u.2.2.1, u.2.2.2.2.1, u.2.1, u.2.2.2.1, u.2.2.2.2.2.2.2.2.2.2.2.2.2.2.2.1, u.2.2.2.2.2.2.2.2.2.2.2.2.2.2.1), (u.2.2.2.2.2.2.2.2.2.2.1, u.2.2.2.2.2.2.2.2.2.2.2.2.2.2.2.2.2.2.2.2.2.2.2.2.2.2.2.2.2.2.2.2.2.2.2.2.2.2.2.2.2.2.2.1, u.2.2.2.2.2.2.2.2.2.2.2.2.2.2.2.2.2.2.2.2.2.2.2.2.2.2.2.2.2.2.2.2.2.2.2.2.2.2.2.2.2.2.2.2.1, u.2.2.2.2.2.2.2.2.2.2.2.2.2.2.2.2.2.2.2.2.2.2.2.2.2.2.2.2.2.2.2.2.2.2.2.2.2.2.2.2.2.2.2.2.2), (u.2.2.2.2.2.2.2.2.2.1, s.n_lines_out, u.2.2.2.2.2.2.2.2.2.2.2.2.2.2.2.2.2.2.2.2.2.2.2.2.2.2.2.2.2.2.2.2.2.2.2.2.2.2.2.2.2.2.1, u.2.2.2.2.2.2.2.2.2.2.2.2.2.2.2.2.2.2.2.2.2.2.2.2.2.2.2.2.2.2.2.2.2.2.2.2.2.2.2.2.1, u.2.2.2.2.2.2.2.2.2.2.2.2.2.2.2.2.2.2.2.2.2.2.2.2.2.2.2.2.2.2.2.2.2.2.2.2.2.2.2.2.2.1, s.g_lines_whiteRests, s.g_lines_blackRests, s.g_lines_whiteBlocks, s.g_lines_blackBlocks, s.g_lines_blocks, s.g_lines_modes, s.g_lines_readAbove, s.g_lines_readLine), (u.2.2.2.2.2.2.2.2.1, s.n_sheet_dots, u.2.2.2.2.2.2.2.2.2.2.2.2.2.2.2.2.2.2.2.2.2.2.2.2.2.2.2.2.2.2.2.2.2.2.2.2.2.2.2.1), (u.2.2.2.2.2.1, u.2.2.2.2.2.2.2.2.2.2.2.2.2.2.2.2.2.2.2.2.1, u.2.2.2.2.2.2.2.2.2.2.2.2.2.2.2.2.2.2.2.2.2.2.1, u.2.2.2.2.2.2.2.2.2.2.2.2.2.2.2.2.2.2.2.2.2.2.2.1, u.2.2.2.2.2.2.2.2.2.2.2.2.2.2.2.2.2.2.2.2.2.2.2.2.2.2.2.1, u.2.2.2.2.2.2.2.2.2.2.2.2.2.2.2.2.2.2.2.2.2.2.2.2.2.1, u.2.2.2.2.2.2.2.2.2.2.2.2.2.2.2.2.2.2.2.2.2.2.2.2.2.2.1, u.2.2.2.2.2.2.2.2.2.2.2.2.2.2.2.2.2.2.2.2.2.2.2.2.1, u.2.2.2.2.2.2.2.2.2.2.2.2.2.2.2.2.2.2.2.2.2.1), (u.2.2.2.2.2.2.1, u.2.2.2.2.2.2.2.2.2.2.2.2.2.2.2.2.2.2.2.2.2.2.2.2.2.2.2.2.1, u.2.2.2.2.2.2.2.2.2.2.2.2.2.2.2.2.2.2.2.2.2.2.2.2.2.2.2.2.2.1, u.2.2.2.2.2.2.2.2.2.2.2.2.2.2.2.2.2.2.2.2.2.2.2.2.2.2.2.2.2.2.1, u.2.2.2.2.2.2.2.2.2.2.2.2.2.2.2.2.2.2.2.2.2.2.2.2.2.2.2.2.2.2.2.1, u.2.2.2.2.2.2.2.2.2.2.2.2.2.2.2.2.2.2.2.2.2.2.2.2.2.2.2.2.2.2.2.2.1, u.2.2.2.2.2.2.2.2.2.2.2.2.2.2.2.2.2.2.2.2.2.2.2.2.2.2.2.2.2.2.2.2.2.1, u.2.2.2.2.2.2.2.2.2.2.2.2.2.2.2.2.2.2.2.2.2.2.2.2.2.2.2.2.2.2.2.2.2.2.1, u.2.2.2.2.2.2.2.2.2.2.2.2.2.2.2.2.2.2.2.2.2.2.2.2.2.2.2.2.2.2.2.2.2.2.2.1, u.2.2.2.2.2.2.2.2.2.2.2.2.2.2.2.2.2.2.2.2.2.2.2.2.2.2.2.2.2.2.2.2.2.2.2.2.1, u.2.2.2.2.2.2.2.2.2.2.2.2.2.2.2.2.2.2.2.2.2.2.2.2.2.2.2.2.2.2.2.2.2.2.2.2.2.1, u.2.2.2.2.2.2.2.2.2.2.2.2.2.2.2.2.2.2.2.2.2.2.2.2.2.2.2.2.2.2.2.2.2.2.2.2.2.2.1), (u.2.2.2.2.2.2.2.1, u.2.2.2.2.2.2.2.2.2.2.2.2.2.2.2.2.1, u.2.2.2.2.2.2.2.2.2.2.2.2.2.2.2.2.2.1, u.2.2.2.2.2.2.2.2.2.2.2.2.2.2.2.2.2.2.1, u.2.2.2.2.2.2.2.2.2.2.2.2.2.2.2.2.2.2.2.1, s.g_macros_buffer), s.2.2.2.2.2.2.2.1, s.2.2.2.2.2.2.2.2.1, s.2.2.2.2.2.2.2.2.2) : RS))

def mComes0 (N : Nat) (s : RS) (v0 : Int32) : Option (RS) := (ex_Ref_comes_c0 N s.o_this s.o_macros s.o_desk s.o_shelf s.o_sheet s.o_lines s.o_job s.g_pages s.g_seed s.g_fresh s.g_xWhat s.g_xId s.g_toDo s.g_toDoId s.g_bytes1 s.g_bytes2 s.g_desk_state s.g_desk_kept s.g_desk_isKept s.g_desk_steps s.g_desk_glyph s.g_desk_page s.g_desk_other s.g_desk_store s.g_shelf_ids s.g_shelf_attributes s.g_shelf_permanent s.g_shelf_glyph s.g_shelf_store 7 s.g_shelf_draft 14 s.g_shelf_wishes 2 s.g_shelf_pins s.g_shelf_coming s.g_shelf_bytes s.g_shelf_left s.g_macros_ids s.g_macros_permanent s.g_macros_lengths s.g_macros_store s.n_sheet_dots s.g_sheet_dots s.g_lines_whiteRests s.g_lines_blackRests s.g_lines_whiteBlocks s.g_lines_blackBlocks s.g_lines_blocks s.g_lines_modes s.g_lines_line s.g_lines_above s.n_lines_out s.g_lines_out s.g_job_file s.g_job_places s.g_job_lengths s.g_macros_buffer v0).map (fun u => (((u.1, u.2.2.2.2.2.2.2.1, u.2.2.2.2.2.2.2.2.2.1, s.g_shownPages, s.g_tape, u.2.2.2.2.2.2.2.2.1, u.2.2.2.2.2.2.2.2.2.2.1, u.2.2.2.2.2.2.2.2.2.2.2.1, u.2.2.2.2.2.2.2.2.2.2.2.2.1, u.2.2.2.2.2.2.2.2.2.2.2.2.2.1, u.2.2.2.2.2.2.2.2.2.2.2.2.2.2.2.1, u.2.2.2.2.2.2.2.2.2.2.2.2.2.2.1), (u.2.2.2.2.2.2.1, u.2.2.2.2.2.2.2.2.2.2.2.2.2.2.2.2.2.2.2.2.2.2.2.2.2.2.2.2.2.2.2.2.2.2.2.2.2.2.2.2.2.2.2.1, u.2.2.2.2.2.2.2.2.2.2.2.2.2.2.2.2.2.2.2.2.2.2.2.2.2.2.2.2.2.2.2.2.2.2.2.2.2.2.2.2.2.2.2.2.1, u.2.2.2.2.2.2.2.2.2.2.2.2.2.2.2.2.2.2.2.2.2.2.2.2.2.2.2.2.2.2.2.2.2.2.2.2.2.2.2.2.2.2.2.2.2.1), (u.2.2.2.2.2.1, s.n_lines_out, u.2.2.2.2.2.2.2.2.2.2.2.2.2.2.2.2.2.2.2.2.2.2.2.2.2.2.2.2.2.2.2.2.2.2.2.2.2.2.2.2.2.2.1, u.2.2.2.2.2.2.2.2.2.2.2.2.2.2.2.2.2.2.2.2.2.2.2.2.2.2.2.2.2.2.2.2.2.2.2.2.2.2.2.2.1, u.2.2.2.2.2.2.2.2.2.2.2.2.2.2.2.2.2.2.2.2.2.2.2.2.2.2.2.2.2.2.2.2.2.2.2.2.2.2.2.2.2.1, s.g_lines_whiteRests, s.g_lines_blackRests, s.g_lines_whiteBlocks, s.g_lines_blackBlocks, s.g_lines_blocks, s.g_lines_modes, s.g_lines_readAbove, s.g_lines_readLine), (u.2.2.2.2.1, s.n_sheet_dots, u.2.2.2.2.2.2.2.2.2.2.2.2.2.2.2.2.2.2.2.2.2.2.2.2.2.2.2.2.2.2.2.2.2.2.2.2.2.2.2.1), (u.2.2.1, u.2.2.2.2.2.2.2.2.2.2.2.2.2.2.2.2.1, u.2.2.2.2.2.2.2.2.2.2.2.2.2.2.2.2.2.2.1, u.2.2.2.2.2.2.2.2.2.2.2.2.2.2.2.2.2.2.2.1, u.2.2.2.2.2.2.2.2.2.2.2.2.2.2.2.2.2.2.2.2.2.2.2.1, u.2.2.2.2.2.2.2.2.2.2.2.2.2.2.2.2.2.2.2.2.2.1, u.2.2.2.2.2.2.2.2.2.2.2.2.2.2.2.2.2.2.2.2.2.2.1, u.2.2.2.2.2.2.2.2.2.2.2.2.2.2.2.2.2.2.2.2.1, u.2.2.2.2.2.2.2.2.2.2.2.2.2.2.2.2.2.1), (u.2.2.2.1, u.2.2.2.2.2.2.2.2.2.2.2.2.2.2.2.2.2.2.2.2.2.2.2.2.1, u.2.2.2.2.2.2.2.2.2.2.2.2.2.2.2.2.2.2.2.2.2.2.2.2.2.1, u.2.2.2.2.2.2.2.2.2.2.2.2.2.2.2.2.2.2.2.2.2.2.2.2.2.2.1, u.2.2.2.2.2.2.2.2.2.2.2.2.2.2.2.2.2.2.2.2.2.2.2.2.2.2.2.1, u.2.2.2.2.2.2.2.2.2.2.2.2.2.2.2.2.2.2.2.2.2.2.2.2.2.2.2.2.1, u.2.2.2.2.2.2.2.2.2.2.2.2.2.2.2.2.2.2.2.2.2.2.2.2.2.2.2.2.2.1, u.2.2.2.2.2.2.2.2.2.2.2.2.2.2.2.2.2.2.2.2.2.2.2.2.2.2.2.2.2.2.1, u.2.2.2.2.2.2.2.2.2.2.2.2.2.2.2.2.2.2.2.2.2.2.2.2.2.2.2.2.2.2.2.1, u.2.2.2.2.2.2.2.2.2.2.2.2.2.2.2.2.2.2.2.2.2.2.2.2.2.2.2.2.2.2.2.2.1, u.2.2.2.2.2.2.2.2.2.2.2.2.2.2.2.2.2.2.2.2.2.2.2.2.2.2.2.2.2.2.2.2.2.1, u.2.2.2.2.2.2.2.2.2.2.2.2.2.2.2.2.2.2.2.2.2.2.2.2.2.2.2.2.2.2.2.2.2.2.1), (u.2.1, u.2.2.2.2.2.2.2.2.2.2.2.2.2.2.2.2.2.2.2.2.2.2.2.2.2.2.2.2.2.2.2.2.2.2.2.1, u.2.2.2.2.2.2.2.2.2.2.2.2.2.2.2.2.2.2.2.2.2.2.2.2.2.2.2.2.2.2.2.2.2.2.2.2.1, u.2.2.2.2.2.2.2.2.2.2.2.2.2.2.2.2.2.2.2.2.2.2.2.2.2.2.2.2.2.2.2.2.2.2.2.2.2.1, u.2.2.2.2.2.2.2.2.2.2.2.2.2.2.2.2.2.2.2.2.2.2.2.2.2.2.2.2.2.2.2.2.2.2.2.2.2.2.1, u.2.2.2.2.2.2.2.2.2.2.2.2.2.2.2.2.2.2.2.2.2.2.2.2.2.2.2.2.2.2.2.2.2.2.2.2.2.2.2.2.2.2.2.2.2.2), s.2.2.2.2.2.2.2.1, s.2.2.2.2.2.2.2.2.1, s.2.2.2.2.2.2.2.2.2) : RS))
def kLp (N n : Nat) (w : Int32) (s : CS) := lp_Main_printStream_10 N s.g_tape s.n_macros_collected s.n_sheet_band n w s.o_this s.g_interpreter_actCount s.g_interpreter_actNext s.o_page s.o_macros s.o_interpreter_parser s.g_interpreter_copies s.g_interpreter_called s.g_interpreter_acts s.g_interpreter_actIds s.g_page_stack s.g_page_kept s.g_macros_ids s.g_macros_places s.g_macros_lengths s.g_macros_permanent s.g_macros_bytes s.g_macros_collected s.g_interpreter_parser_data s.o_sheet s.o_fonts s.o_raster s.g_fonts_ids s.g_fonts_attributes s.g_fonts_permanent s.g_fonts_glyphs s.g_fonts_dots s.g_fonts_wishes s.g_fonts_pins s.g_fonts_chosen s.g_fonts_coming s.g_macros_saidActs s.g_macros_saidIds s.g_sheet_marks s.g_sheet_dots s.g_raster_seed s.g_fonts_left s.o_coder s.o_file s.g_sheet_band s.g_coder_above s.g_coder_line s.g_file_bytes s.g_file_table s.o_interpreter s.g_interpreter_at s.g_interpreter_ends
def kTup (s : CS) := (s.o_this, s.g_interpreter_actCount, s.g_interpreter_actNext, s.o_page, s.o_macros, s.o_interpreter_parser, s.g_interpreter_copies, s.g_interpreter_called, s.g_interpreter_acts, s.g_interpreter_actIds, s.g_page_stack, s.g_page_kept, s.g_macros_ids, s.g_macros_places, s.g_macros_lengths, s.g_macros_permanent, s.g_macros_bytes, s.g_macros_collected, s.g_interpreter_parser_data, s.o_sheet, s.o_fonts, s.o_raster, s.g_fonts_ids, s.g_fonts_attributes, s.g_fonts_permanent, s.g_fonts_glyphs, s.g_fonts_dots, s.g_fonts_wishes, s.g_fonts_pins, s.g_fonts_chosen, s.g_fonts_coming, s.g_macros_saidActs, s.g_macros_saidIds, s.g_sheet_marks, s.g_sheet_dots, s.g_raster_seed, s.g_fonts_left, s.o_coder, s.o_file, s.g_sheet_band, s.g_coder_above, s.g_coder_line, s.g_file_bytes, s.g_file_table, s.o_interpreter, s.g_interpreter_at, s.g_interpreter_ends)
def kFail (s : CS) (v : Int32) : CS := (((fs_Main_fault s.o_this v, s.g_tape), s.2.1, s.2.2.1, s.2.2.2.1, s.2.2.2.2.1, s.2.2.2.2.2.1, s.2.2.2.2.2.2.1, s.2.2.2.2.2.2.2.1, s.2.2.2.2.2.2.2.2.1, s.2.2.2.2.2.2.2.2.2.1, s.2.2.2.2.2.2.2.2.2.2.1, s.2.2.2.2.2.2.2.2.2.2.2) : CS)

def kStep (N : Nat) (s : CS) : Option CS := (kNext N s).bind (fun u => (kAct N u.1 u.2).bind (fun s2 => (kSettle N s2).bind (fun s3 => if fd_Interpreter_ejecting s2.o_interpreter = 0 then (if fd_Main_fault s.o_this = 0 then kFinish N s3 0 else kFinish N s3 1) else (kPrint N s3).bind (fun p => if p.2 = 0 then kFinish N (kFail p.1 p.2) 0 else kFinish N (kFail p.1 p.2) 1))))
theorem kLp_full {N n : Nat} {w : Int32} {s : CS} (h : (16777216 : Int32) ≤ w) : kLp N (n + 1) w s = some (kTup s) := by
  unfold kLp; rw [lp_Main_printStream_10, if_pos h]; rfl
theorem kLp_fault {N n : Nat} {w : Int32} {s : CS} (h : ¬ fd_Main_fault s.o_this = 0) : kLp N (n + 1) w s = some (kTup s) := by
  unfold kLp; rw [lp_Main_printStream_10, if_neg h]; exact ite_self _
theorem kLp_done {N n : Nat} {w : Int32} {s : CS} (h : kMore N s = some 0) : kLp N (n + 1) w s = some (kTup s) := by
  have h' : ex_Interpreter_hasMore N s.o_interpreter s.g_interpreter_at s.g_interpreter_ends s.g_interpreter_actNext s.g_interpreter_actCount = some 0 := by
    unfold kMore at h; rw [Option.map_id'] at h; exact h
  unfold kLp; rw [lp_Main_printStream_10, h']
  by_cases q1 : (16777216 : Int32) ≤ w
  · rw [if_pos q1]; rfl
  · rw [if_neg q1]
    by_cases q2 : fd_Main_fault s.o_this = 0
    · rw [if_pos q2]; rfl
    · rw [if_neg q2]; rfl
theorem kLp_step {N n : Nat} {w : Int32} {s s' : CS} (h1 : ¬ (16777216 : Int32) ≤ w) (h2 : fd_Main_fault s.o_this = 0) (h3 : kMore N s = some 1) (h4 : kStep N s = some s') : kLp N (n + 1) w s = kLp N n (w + 1) s' := by
  have h3' : ex_Interpreter_hasMore N s.o_interpreter s.g_interpreter_at s.g_interpreter_ends s.g_interpreter_actNext s.g_interpreter_actCount = some 1 := by
    unfold kMore at h3; rw [Option.map_id'] at h3; exact h3
  unfold kStep at h4
  obtain ⟨u1, e1, h4⟩ := Option.bind_eq_some_iff.mp h4
  obtain ⟨s2, e2, h4⟩ := Option.bind_eq_some_iff.mp h4
  obtain ⟨s3, e3, h4⟩ := Option.bind_eq_some_iff.mp h4
  unfold kNext at e1
  obtain ⟨r1, f1, e1⟩ := Option.map_eq_some_iff.mp e1
  subst e1
  unfold kAct at e2
  obtain ⟨r2, f2, e2⟩ := Option.map_eq_some_iff.mp e2
  subst e2
  unfold kSettle at e3
  obtain ⟨r3, f3, e3⟩ := Option.map_eq_some_iff.mp e3
  subst e3
  unfold kLp
  rw [lp_Main_printStream_10, if_neg h1, if_pos h2]
  refine (bind_eq h3').trans ?_
  rw [if_neg (show ¬ (1 : Int32) = 0 by decide)]
  refine (bind_eq f1).trans ?_
  refine (bind_eq f2).trans ?_
  refine (bind_eq f3).trans ?_
  by_cases q : fd_Interpreter_ejecting r2.1 = 0
  · rw [if_pos q] at h4 ⊢
    rw [if_pos h2] at h4 ⊢
    unfold kFinish at h4
    obtain ⟨r4, f4, e4⟩ := Option.map_eq_some_iff.mp h4
    subst e4
    exact bind_eq f4
  · rw [if_neg q] at h4 ⊢
    obtain ⟨p, e4, h4⟩ := Option.bind_eq_some_iff.mp h4
    unfold kPrint at e4
    obtain ⟨r4, f4, e4⟩ := Option.map_eq_some_iff.mp e4
    subst e4
    refine (bind_eq f4).trans ?_
    by_cases q2 : r4.2.2.2.2.2.2.2.2.2 = 0
    · rw [if_pos q2] at h4 ⊢
      unfold kFinish at h4
      obtain ⟨r5, f5, e5⟩ := Option.map_eq_some_iff.mp h4
      subst e5
      exact bind_eq f5
    · rw [if_neg q2] at h4 ⊢
      unfold kFinish at h4
      obtain ⟨r5, f5, e5⟩ := Option.map_eq_some_iff.mp h4
      subst e5
      exact bind_eq f5
/-- so many rounds of the class's loop -/
def kRun (N c : Nat) (s s' : CS) : Prop := ∀ fu w, w + c ≤ 16777216 → kLp N (fu + c) (nI w) s = kLp N fu (nI (w + c)) s'
theorem kRun.refl (N : Nat) (s : CS) : kRun N 0 s s := fun fu w h => rfl
theorem kRun.trans {N c c' : Nat} {s s1 s2 : CS} (h : kRun N c s s1) (h2 : kRun N c' s1 s2) : kRun N (c + c') s s2 := fun fu w hw => by
  have e : fu + (c + c') = (fu + c') + c := by omega
  rw [e, h (fu + c') w (by omega), h2 fu (w + c) (by omega), Nat.add_assoc]
theorem kRun.one {N : Nat} {s s' : CS} (h2 : fd_Main_fault s.o_this = 0) (h3 : kMore N s = some 1) (h4 : kStep N s = some s') : kRun N 1 s s' := fun fu w hw => by
  have hw' : ¬ (16777216 : Int32) ≤ nI w := nI_ge (b := 16777216) (by omega) (by omega)
  rw [kLp_step hw' h2 h3 h4, nI_1]
def mOthers (N : Nat) : Nat → RS → Option RS
  | 0, _ => none
  | n + 1, s => if fd_mDesk_others s.o_desk ≤ 0 then some s else (if s.g_desk_other 6 = 0 then (mOther N s).bind (fun s1 => (mTake N s1).bind (fun u => mOthers N n u.1)) else some s)
def mTail (N : Nat) (s : RS) (gl : Int32) : Option RS := (mMeasure N s).bind (fun s1 => if fd_mDesk_came s1.o_desk = 0 then mOthers N N s1 else (mPaint N s1 gl).bind (fun s2 => mOthers N N s2))
def mEnd (N : Nat) (s : RS) (gl was : Int32) : Option (RS × Bool) := (mTail N s gl).bind (fun s4 => if was = 0 then some (s4, false) else (mIsSeq N s4).bind (fun q => some (s4, decide (q = 0))))
def mWide (N : Nat) (s : RS) (w gl : Int32) : Option (RS × Int32) := if gl < 0 then some (s, -1) else (mChoose N s w).bind (fun c => if dk_in ((7 * c.2) + 1) 231 then (if c.1.g_shelf_attributes ((7 * c.2) + 1).toNatClampNeg = 1 then (if dk_in ((7 * gl) + 6) 1799 then some (c.1, c.1.g_shelf_glyph ((7 * gl) + 6).toNatClampNeg) else none) else some (c.1, -1)) else none)
def mGo1 (N : Nat) (s : RS) (b gl sk : Int32) : Option (RS × Bool) := (mAdv N s (s.g_desk_state 11) b sk).bind (fun a => (mIsSeq N a.1).bind (fun was => (mDesk N a.1 b).bind (fun s2 => if fd_mDesk_pages s2.o_desk ≤ fd_mDesk_pages a.1.o_desk then mEnd N s2 gl was else (mPrint N s2).bind (fun s3 => if fd_Ref_fault s3.o_this ≤ 0 then mEnd N s3 gl was else some (s3, false)))))
def mGo (N : Nat) (s : RS) (b gl sk : Int32) : Option (RS × Bool) := if sk ≤ 20000 then mGo1 N s b gl sk else mGo1 N s b gl 20000
def mByte (N : Nat) (s : RS) (b : Int32) : Option (RS × Bool) := (mGlyph N s (s.g_desk_state 11) b).bind (fun g => (mWide N g.1 (s.g_desk_state 11) g.2).bind (fun c => mGo N c.1 b g.2 c.2))

theorem oth_316g6_2 {N : Nat} : ∀ (n : Nat) (s s' : RS), mOthers N n s = some s' → ∃ r, lp_Ref_comes_c2_316g6 N 14 2 7 s.n_sheet_dots n s.g_xWhat s.g_xId s.g_seed s.g_fresh s.g_shelf_store s.g_shelf_draft s.g_shelf_coming s.g_shelf_bytes s.g_sheet_dots s.o_shelf s.g_shelf_ids s.g_shelf_attributes s.g_shelf_permanent s.g_shelf_wishes s.g_shelf_pins s.g_shelf_glyph s.g_desk_state s.g_desk_other s.g_desk_store s.o_this s.o_sheet s.o_desk = some r ∧ s' = (((r.2.2.2.2.2.2.2.2.2.2.2.2.2.2.2.2.2.2.2.1, s.g_pages, r.2.2.2.1, s.g_shownPages, s.g_tape, r.2.2.1, r.1, r.2.1, s.g_toDo, s.g_toDoId, s.g_bytes2, s.g_bytes1), s.2.1, s.2.2.1, (r.2.2.2.2.2.2.2.2.2.2.2.2.2.2.2.2.2.2.2.2.1, s.n_sheet_dots, r.2.2.2.2.2.2.2.2.1), (r.2.2.2.2.2.2.2.2.2.2.2.2.2.2.2.2.2.2.2.2.2, r.2.2.2.2.2.2.2.2.2.2.2.2.2.2.2.2.1, s.g_desk_isKept, s.g_desk_steps, r.2.2.2.2.2.2.2.2.2.2.2.2.2.2.2.2.2.2.1, s.g_desk_page, r.2.2.2.2.2.2.2.2.2.2.2.2.2.2.2.2.2.1, s.g_desk_glyph, s.g_desk_kept), (r.2.2.2.2.2.2.2.2.2.1, r.2.2.2.2.2.2.2.2.2.2.1, r.2.2.2.2.2.2.2.2.2.2.2.1, r.2.2.2.2.2.2.2.2.2.2.2.2.1, r.2.2.2.2.2.2.2.2.2.2.2.2.2.2.2.1, r.2.2.2.2.1, r.2.2.2.2.2.1, r.2.2.2.2.2.2.2.2.2.2.2.2.2.1, r.2.2.2.2.2.2.2.2.2.2.2.2.2.2.1, r.2.2.2.2.2.2.1, r.2.2.2.2.2.2.2.1, s.g_shelf_left), s.2.2.2.2.2.2.1, s.2.2.2.2.2.2.2.1, s.2.2.2.2.2.2.2.2.1, s.2.2.2.2.2.2.2.2.2) : RS) := by
  intro n
  induction n with
  | zero => intro s s' h; exact absurd h (by intro q; cases q)
  | succ n ih =>
    intro s s' h
    rw [mOthers] at h
    rw [lp_Ref_comes_c2_316g6]
    by_cases q1 : fd_mDesk_others s.o_desk ≤ 0
    · rw [if_pos q1] at h ⊢
      have h' := Option.some.inj h
      subst h'
      exact ⟨_, rfl, rfl⟩
    · rw [if_neg q1] at h ⊢
      by_cases q2 : s.g_desk_other 6 = 0
      · rw [if_pos q2] at h ⊢
        obtain ⟨s1, e1, h⟩ := Option.bind_eq_some_iff.mp h
        obtain ⟨u, e2, h⟩ := Option.bind_eq_some_iff.mp h
        unfold mOther at e1
        obtain ⟨r1, f1, e1⟩ := Option.map_eq_some_iff.mp e1
        subst e1
        unfold mTake at e2
        obtain ⟨r2, f2, e2⟩ := Option.map_eq_some_iff.mp e2
        subst e2
        obtain ⟨r, g1, g2⟩ := ih _ _ h
        exact ⟨r, (bind_eq f1).trans ((bind_eq f2).trans g1), g2⟩
      · rw [if_neg q2] at h ⊢
        have h' := Option.some.inj h
        subst h'
        exact ⟨_, rfl, rfl⟩

theorem oth_316i8_2 {N : Nat} : ∀ (n : Nat) (s s' : RS), mOthers N n s = some s' → ∃ r, lp_Ref_comes_c2_316i8 N 14 2 7 s.n_sheet_dots n s.g_xWhat s.g_xId s.g_seed s.g_fresh s.g_shelf_draft s.g_shelf_coming s.g_shelf_bytes s.g_shelf_ids s.g_shelf_attributes s.g_shelf_permanent s.g_shelf_wishes s.g_shelf_pins s.g_desk_state s.g_desk_other s.g_desk_store s.o_this s.o_shelf s.g_shelf_glyph s.o_sheet s.o_desk s.g_shelf_store s.g_sheet_dots = some r ∧ s' = (((r.2.2.2.2.2.2.2.2.2.2.2.2.2.2.2.1, s.g_pages, r.2.2.2.1, s.g_shownPages, s.g_tape, r.2.2.1, r.1, r.2.1, s.g_toDo, s.g_toDoId, s.g_bytes2, s.g_bytes1), s.2.1, s.2.2.1, (r.2.2.2.2.2.2.2.2.2.2.2.2.2.2.2.2.2.2.1, s.n_sheet_dots, r.2.2.2.2.2.2.2.2.2.2.2.2.2.2.2.2.2.2.2.2.2), (r.2.2.2.2.2.2.2.2.2.2.2.2.2.2.2.2.2.2.2.1, r.2.2.2.2.2.2.2.2.2.2.2.2.1, s.g_desk_isKept, s.g_desk_steps, r.2.2.2.2.2.2.2.2.2.2.2.2.2.2.1, s.g_desk_page, r.2.2.2.2.2.2.2.2.2.2.2.2.2.1, s.g_desk_glyph, s.g_desk_kept), (r.2.2.2.2.2.2.2.2.2.2.2.2.2.2.2.2.1, r.2.2.2.2.2.2.2.1, r.2.2.2.2.2.2.2.2.1, r.2.2.2.2.2.2.2.2.2.1, r.2.2.2.2.2.2.2.2.2.2.2.2.2.2.2.2.2.1, r.2.2.2.2.2.2.2.2.2.2.2.2.2.2.2.2.2.2.2.2.1, r.2.2.2.2.1, r.2.2.2.2.2.2.2.2.2.2.1, r.2.2.2.2.2.2.2.2.2.2.2.1, r.2.2.2.2.2.1, r.2.2.2.2.2.2.1, s.g_shelf_left), s.2.2.2.2.2.2.1, s.2.2.2.2.2.2.2.1, s.2.2.2.2.2.2.2.2.1, s.2.2.2.2.2.2.2.2.2) : RS) := by
  intro n
  induction n with
  | zero => intro s s' h; exact absurd h (by intro q; cases q)
  | succ n ih =>
    intro s s' h
    rw [mOthers] at h
    rw [lp_Ref_comes_c2_316i8]
    by_cases q1 : fd_mDesk_others s.o_desk ≤ 0
    · rw [if_pos q1] at h ⊢
      have h' := Option.some.inj h
      subst h'
      exact ⟨_, rfl, rfl⟩
    · rw [if_neg q1] at h ⊢
      by_cases q2 : s.g_desk_other 6 = 0
      · rw [if_pos q2] at h ⊢
        obtain ⟨s1, e1, h⟩ := Option.bind_eq_some_iff.mp h
        obtain ⟨u, e2, h⟩ := Option.bind_eq_some_iff.mp h
        unfold mOther at e1
        obtain ⟨r1, f1, e1⟩ := Option.map_eq_some_iff.mp e1
        subst e1
        unfold mTake at e2
        obtain ⟨r2, f2, e2⟩ := Option.map_eq_some_iff.mp e2
        subst e2
        obtain ⟨r, g1, g2⟩ := ih _ _ h
        exact ⟨r, (bind_eq f1).trans ((bind_eq f2).trans g1), g2⟩
      · rw [if_neg q2] at h ⊢
        have h' := Option.some.inj h
        subst h'
        exact ⟨_, rfl, rfl⟩

theorem oth_316g6_1 {N : Nat} : ∀ (n : Nat) (s s' : RS), mOthers N n s = some s' → ∃ r, lp_Ref_comes_c1_316g6 N 7 14 2 s.n_sheet_dots n s.g_seed s.g_fresh s.g_xWhat s.g_xId s.g_shelf_store s.g_shelf_draft s.g_shelf_coming s.g_shelf_bytes s.g_sheet_dots s.o_shelf s.g_shelf_ids s.g_shelf_attributes s.g_shelf_permanent s.g_shelf_wishes s.g_shelf_pins s.g_shelf_glyph s.g_desk_state s.g_desk_other s.g_desk_store s.o_this s.o_sheet s.o_desk = some r ∧ s' = (((r.2.2.2.2.2.2.2.2.2.2.2.2.2.2.2.2.2.2.2.1, s.g_pages, r.2.1, s.g_shownPages, s.g_tape, r.1, r.2.2.1, r.2.2.2.1, s.g_toDo, s.g_toDoId, s.g_bytes2, s.g_bytes1), s.2.1, s.2.2.1, (r.2.2.2.2.2.2.2.2.2.2.2.2.2.2.2.2.2.2.2.2.1, s.n_sheet_dots, r.2.2.2.2.2.2.2.2.1), (r.2.2.2.2.2.2.2.2.2.2.2.2.2.2.2.2.2.2.2.2.2, r.2.2.2.2.2.2.2.2.2.2.2.2.2.2.2.2.1, s.g_desk_isKept, s.g_desk_steps, r.2.2.2.2.2.2.2.2.2.2.2.2.2.2.2.2.2.2.1, s.g_desk_page, r.2.2.2.2.2.2.2.2.2.2.2.2.2.2.2.2.2.1, s.g_desk_glyph, s.g_desk_kept), (r.2.2.2.2.2.2.2.2.2.1, r.2.2.2.2.2.2.2.2.2.2.1, r.2.2.2.2.2.2.2.2.2.2.2.1, r.2.2.2.2.2.2.2.2.2.2.2.2.1, r.2.2.2.2.2.2.2.2.2.2.2.2.2.2.2.1, r.2.2.2.2.1, r.2.2.2.2.2.1, r.2.2.2.2.2.2.2.2.2.2.2.2.2.1, r.2.2.2.2.2.2.2.2.2.2.2.2.2.2.1, r.2.2.2.2.2.2.1, r.2.2.2.2.2.2.2.1, s.g_shelf_left), s.2.2.2.2.2.2.1, s.2.2.2.2.2.2.2.1, s.2.2.2.2.2.2.2.2.1, s.2.2.2.2.2.2.2.2.2) : RS) := by
  intro n
  induction n with
  | zero => intro s s' h; exact absurd h (by intro q; cases q)
  | succ n ih =>
    intro s s' h
    rw [mOthers] at h
    rw [lp_Ref_comes_c1_316g6]
    by_cases q1 : fd_mDesk_others s.o_desk ≤ 0
    · rw [if_pos q1] at h ⊢
      have h' := Option.some.inj h
      subst h'
      exact ⟨_, rfl, rfl⟩
    · rw [if_neg q1] at h ⊢
      by_cases q2 : s.g_desk_other 6 = 0
      · rw [if_pos q2] at h ⊢
        obtain ⟨s1, e1, h⟩ := Option.bind_eq_some_iff.mp h
        obtain ⟨u, e2, h⟩ := Option.bind_eq_some_iff.mp h
        unfold mOther at e1
        obtain ⟨r1, f1, e1⟩ := Option.map_eq_some_iff.mp e1
        subst e1
        unfold mTake at e2
        obtain ⟨r2, f2, e2⟩ := Option.map_eq_some_iff.mp e2
        subst e2
        obtain ⟨r, g1, g2⟩ := ih _ _ h
        exact ⟨r, (bind_eq f1).trans ((bind_eq f2).trans g1), g2⟩
      · rw [if_neg q2] at h ⊢
        have h' := Option.some.inj h
        subst h'
        exact ⟨_, rfl, rfl⟩

theorem oth_316i8_1 {N : Nat} : ∀ (n : Nat) (s s' : RS), mOthers N n s = some s' → ∃ r, lp_Ref_comes_c1_316i8 N 7 14 2 s.n_sheet_dots n s.g_seed s.g_fresh s.g_xWhat s.g_xId s.g_shelf_draft s.g_shelf_coming s.g_shelf_bytes s.g_shelf_ids s.g_shelf_attributes s.g_shelf_permanent s.g_shelf_wishes s.g_shelf_pins s.g_desk_state s.g_desk_other s.g_desk_store s.o_this s.o_shelf s.g_shelf_glyph s.o_sheet s.o_desk s.g_shelf_store s.g_sheet_dots = some r ∧ s' = (((r.2.2.2.2.2.2.2.2.2.2.2.2.2.2.2.1, s.g_pages, r.2.1, s.g_shownPages, s.g_tape, r.1, r.2.2.1, r.2.2.2.1, s.g_toDo, s.g_toDoId, s.g_bytes2, s.g_bytes1), s.2.1, s.2.2.1, (r.2.2.2.2.2.2.2.2.2.2.2.2.2.2.2.2.2.2.1, s.n_sheet_dots, r.2.2.2.2.2.2.2.2.2.2.2.2.2.2.2.2.2.2.2.2.2), (r.2.2.2.2.2.2.2.2.2.2.2.2.2.2.2.2.2.2.2.1, r.2.2.2.2.2.2.2.2.2.2.2.2.1, s.g_desk_isKept, s.g_desk_steps, r.2.2.2.2.2.2.2.2.2.2.2.2.2.2.1, s.g_desk_page, r.2.2.2.2.2.2.2.2.2.2.2.2.2.1, s.g_desk_glyph, s.g_desk_kept), (r.2.2.2.2.2.2.2.2.2.2.2.2.2.2.2.2.1, r.2.2.2.2.2.2.2.1, r.2.2.2.2.2.2.2.2.1, r.2.2.2.2.2.2.2.2.2.1, r.2.2.2.2.2.2.2.2.2.2.2.2.2.2.2.2.2.1, r.2.2.2.2.2.2.2.2.2.2.2.2.2.2.2.2.2.2.2.2.1, r.2.2.2.2.1, r.2.2.2.2.2.2.2.2.2.2.1, r.2.2.2.2.2.2.2.2.2.2.2.1, r.2.2.2.2.2.1, r.2.2.2.2.2.2.1, s.g_shelf_left), s.2.2.2.2.2.2.1, s.2.2.2.2.2.2.2.1, s.2.2.2.2.2.2.2.2.1, s.2.2.2.2.2.2.2.2.2) : RS) := by
  intro n
  induction n with
  | zero => intro s s' h; exact absurd h (by intro q; cases q)
  | succ n ih =>
    intro s s' h
    rw [mOthers] at h
    rw [lp_Ref_comes_c1_316i8]
    by_cases q1 : fd_mDesk_others s.o_desk ≤ 0
    · rw [if_pos q1] at h ⊢
      have h' := Option.some.inj h
      subst h'
      exact ⟨_, rfl, rfl⟩
    · rw [if_neg q1] at h ⊢
      by_cases q2 : s.g_desk_other 6 = 0
      · rw [if_pos q2] at h ⊢
        obtain ⟨s1, e1, h⟩ := Option.bind_eq_some_iff.mp h
        obtain ⟨u, e2, h⟩ := Option.bind_eq_some_iff.mp h
        unfold mOther at e1
        obtain ⟨r1, f1, e1⟩ := Option.map_eq_some_iff.mp e1
        subst e1
        unfold mTake at e2
        obtain ⟨r2, f2, e2⟩ := Option.map_eq_some_iff.mp e2
        subst e2
        obtain ⟨r, g1, g2⟩ := ih _ _ h
        exact ⟨r, (bind_eq f1).trans ((bind_eq f2).trans g1), g2⟩
      · rw [if_neg q2] at h ⊢
        have h' := Option.some.inj h
        subst h'
        exact ⟨_, rfl, rfl⟩

theorem oth_316g6_0 {N : Nat} : ∀ (n : Nat) (s s' : RS), mOthers N n s = some s' → ∃ r, lp_Ref_comes_c0_316g6 N 7 14 2 s.n_sheet_dots n s.g_seed s.g_fresh s.g_xWhat s.g_xId s.g_shelf_store s.g_shelf_draft s.g_shelf_coming s.g_shelf_bytes s.g_sheet_dots s.o_shelf s.g_shelf_ids s.g_shelf_attributes s.g_shelf_permanent s.g_shelf_wishes s.g_shelf_pins s.g_shelf_glyph s.g_desk_state s.g_desk_other s.g_desk_store s.o_this s.o_sheet s.o_desk = some r ∧ s' = (((r.2.2.2.2.2.2.2.2.2.2.2.2.2.2.2.2.2.2.2.1, s.g_pages, r.2.1, s.g_shownPages, s.g_tape, r.1, r.2.2.1, r.2.2.2.1, s.g_toDo, s.g_toDoId, s.g_bytes2, s.g_bytes1), s.2.1, s.2.2.1, (r.2.2.2.2.2.2.2.2.2.2.2.2.2.2.2.2.2.2.2.2.1, s.n_sheet_dots, r.2.2.2.2.2.2.2.2.1), (r.2.2.2.2.2.2.2.2.2.2.2.2.2.2.2.2.2.2.2.2.2, r.2.2.2.2.2.2.2.2.2.2.2.2.2.2.2.2.1, s.g_desk_isKept, s.g_desk_steps, r.2.2.2.2.2.2.2.2.2.2.2.2.2.2.2.2.2.2.1, s.g_desk_page, r.2.2.2.2.2.2.2.2.2.2.2.2.2.2.2.2.2.1, s.g_desk_glyph, s.g_desk_kept), (r.2.2.2.2.2.2.2.2.2.1, r.2.2.2.2.2.2.2.2.2.2.1, r.2.2.2.2.2.2.2.2.2.2.2.1, r.2.2.2.2.2.2.2.2.2.2.2.2.1, r.2.2.2.2.2.2.2.2.2.2.2.2.2.2.2.1, r.2.2.2.2.1, r.2.2.2.2.2.1, r.2.2.2.2.2.2.2.2.2.2.2.2.2.1, r.2.2.2.2.2.2.2.2.2.2.2.2.2.2.1, r.2.2.2.2.2.2.1, r.2.2.2.2.2.2.2.1, s.g_shelf_left), s.2.2.2.2.2.2.1, s.2.2.2.2.2.2.2.1, s.2.2.2.2.2.2.2.2.1, s.2.2.2.2.2.2.2.2.2) : RS) := by
  intro n
  induction n with
  | zero => intro s s' h; exact absurd h (by intro q; cases q)
  | succ n ih =>
    intro s s' h
    rw [mOthers] at h
    rw [lp_Ref_comes_c0_316g6]
    by_cases q1 : fd_mDesk_others s.o_desk ≤ 0
    · rw [if_pos q1] at h ⊢
      have h' := Option.some.inj h
      subst h'
      exact ⟨_, rfl, rfl⟩
    · rw [if_neg q1] at h ⊢
      by_cases q2 : s.g_desk_other 6 = 0
      · rw [if_pos q2] at h ⊢
        obtain ⟨s1, e1, h⟩ := Option.bind_eq_some_iff.mp h
        obtain ⟨u, e2, h⟩ := Option.bind_eq_some_iff.mp h
        unfold mOther at e1
        obtain ⟨r1, f1, e1⟩ := Option.map_eq_some_iff.mp e1
        subst e1
        unfold mTake at e2
        obtain ⟨r2, f2, e2⟩ := Option.map_eq_some_iff.mp e2
        subst e2
        obtain ⟨r, g1, g2⟩ := ih _ _ h
        exact ⟨r, (bind_eq f1).trans ((bind_eq f2).trans g1), g2⟩
      · rw [if_neg q2] at h ⊢
        have h' := Option.some.inj h
        subst h'
        exact ⟨_, rfl, rfl⟩

theorem oth_316i8_0 {N : Nat} : ∀ (n : Nat) (s s' : RS), mOthers N n s = some s' → ∃ r, lp_Ref_comes_c0_316i8 N 7 14 2 s.n_sheet_dots n s.g_seed s.g_fresh s.g_xWhat s.g_xId s.g_shelf_draft s.g_shelf_coming s.g_shelf_bytes s.g_shelf_ids s.g_shelf_attributes s.g_shelf_permanent s.g_shelf_wishes s.g_shelf_pins s.g_desk_state s.g_desk_other s.g_desk_store s.o_this s.o_shelf s.g_shelf_glyph s.o_sheet s.o_desk s.g_shelf_store s.g_sheet_dots = some r ∧ s' = (((r.2.2.2.2.2.2.2.2.2.2.2.2.2.2.2.1, s.g_pages, r.2.1, s.g_shownPages, s.g_tape, r.1, r.2.2.1, r.2.2.2.1, s.g_toDo, s.g_toDoId, s.g_bytes2, s.g_bytes1), s.2.1, s.2.2.1, (r.2.2.2.2.2.2.2.2.2.2.2.2.2.2.2.2.2.2.1, s.n_sheet_dots, r.2.2.2.2.2.2.2.2.2.2.2.2.2.2.2.2.2.2.2.2.2), (r.2.2.2.2.2.2.2.2.2.2.2.2.2.2.2.2.2.2.2.1, r.2.2.2.2.2.2.2.2.2.2.2.2.1, s.g_desk_isKept, s.g_desk_steps, r.2.2.2.2.2.2.2.2.2.2.2.2.2.2.1, s.g_desk_page, r.2.2.2.2.2.2.2.2.2.2.2.2.2.1, s.g_desk_glyph, s.g_desk_kept), (r.2.2.2.2.2.2.2.2.2.2.2.2.2.2.2.2.1, r.2.2.2.2.2.2.2.1, r.2.2.2.2.2.2.2.2.1, r.2.2.2.2.2.2.2.2.2.1, r.2.2.2.2.2.2.2.2.2.2.2.2.2.2.2.2.2.1, r.2.2.2.2.2.2.2.2.2.2.2.2.2.2.2.2.2.2.2.2.1, r.2.2.2.2.1, r.2.2.2.2.2.2.2.2.2.2.1, r.2.2.2.2.2.2.2.2.2.2.2.1, r.2.2.2.2.2.1, r.2.2.2.2.2.2.1, s.g_shelf_left), s.2.2.2.2.2.2.1, s.2.2.2.2.2.2.2.1, s.2.2.2.2.2.2.2.2.1, s.2.2.2.2.2.2.2.2.2) : RS) := by
  intro n
  induction n with
  | zero => intro s s' h; exact absurd h (by intro q; cases q)
  | succ n ih =>
    intro s s' h
    rw [mOthers] at h
    rw [lp_Ref_comes_c0_316i8]
    by_cases q1 : fd_mDesk_others s.o_desk ≤ 0
    · rw [if_pos q1] at h ⊢
      have h' := Option.some.inj h
      subst h'
      exact ⟨_, rfl, rfl⟩
    · rw [if_neg q1] at h ⊢
      by_cases q2 : s.g_desk_other 6 = 0
      · rw [if_pos q2] at h ⊢
        obtain ⟨s1, e1, h⟩ := Option.bind_eq_some_iff.mp h
        obtain ⟨u, e2, h⟩ := Option.bind_eq_some_iff.mp h
        unfold mOther at e1
        obtain ⟨r1, f1, e1⟩ := Option.map_eq_some_iff.mp e1
        subst e1
        unfold mTake at e2
        obtain ⟨r2, f2, e2⟩ := Option.map_eq_some_iff.mp e2
        subst e2
        obtain ⟨r, g1, g2⟩ := ih _ _ h
        exact ⟨r, (bind_eq f1).trans ((bind_eq f2).trans g1), g2⟩
      · rw [if_neg q2] at h ⊢
        have h' := Option.some.inj h
        subst h'
        exact ⟨_, rfl, rfl⟩
def mStopped (s : RS) : RS := ((s.1, s.2.1, s.2.2.1, s.2.2.2.1, (fs_mDesk_phase s.o_desk 0, s.g_desk_state, s.g_desk_isKept, s.g_desk_steps, s.g_desk_store, s.g_desk_page, s.g_desk_other, s.g_desk_glyph, s.g_desk_kept), s.2.2.2.2.2.1, s.2.2.2.2.2.2.1, s.2.2.2.2.2.2.2.1, s.2.2.2.2.2.2.2.2.1, s.2.2.2.2.2.2.2.2.2) : RS)

def mStop2 (N : Nat) : Nat → RS → Int32 → Option RS
  | 0, _, _ => none
  | n + 1, s, b => if b = 27 then (if fd_mDesk_phase s.o_desk ≤ 1 then some s else (if (4 : Int32) ≤ fd_mDesk_phase s.o_desk then some s else (if fd_Ref_xMany s.o_this ≤ 0 then some s else (if fd_Ref_fault s.o_this = 0 then (mWork2 N (mStopped s)).bind (fun s1 => mStop2 N n s1 b) else some s)))) else some s

theorem stop_2 {N : Nat} {b : Int32} : ∀ (n : Nat) (s s' : RS), mStop2 N n s b = some s' → ∃ r, lp_Ref_comes_c2_31 N s.g_xWhat s.g_xId b n s.o_this s.o_desk s.o_macros s.g_toDo s.g_toDoId s.g_macros_ids s.g_macros_permanent s.g_macros_lengths s.g_macros_store = some r ∧ s' = (((r.1, s.g_pages, s.g_fresh, s.g_shownPages, s.g_tape, s.g_seed, s.g_xWhat, s.g_xId, r.2.2.2.1, r.2.2.2.2.1, s.g_bytes2, s.g_bytes1), s.2.1, s.2.2.1, s.2.2.2.1, (r.2.1, s.g_desk_state, s.g_desk_isKept, s.g_desk_steps, s.g_desk_store, s.g_desk_page, s.g_desk_other, s.g_desk_glyph, s.g_desk_kept), s.2.2.2.2.2.1, (r.2.2.1, r.2.2.2.2.2.1, r.2.2.2.2.2.2.1, r.2.2.2.2.2.2.2.1, r.2.2.2.2.2.2.2.2, s.g_macros_buffer), s.2.2.2.2.2.2.2.1, s.2.2.2.2.2.2.2.2.1, s.2.2.2.2.2.2.2.2.2) : RS) := by
  intro n
  induction n with
  | zero => intro s s' h; exact absurd h (by intro q; cases q)
  | succ n ih =>
    intro s s' h
    rw [mStop2] at h
    rw [lp_Ref_comes_c2_31]
    by_cases q1 : b = 27
    · rw [if_pos q1] at h ⊢
      by_cases q2 : fd_mDesk_phase s.o_desk ≤ 1
      · rw [if_pos q2] at h ⊢
        have h' := Option.some.inj h
        subst h'
        exact ⟨_, rfl, rfl⟩
      · rw [if_neg q2] at h ⊢
        by_cases q3 : (4 : Int32) ≤ fd_mDesk_phase s.o_desk
        · rw [if_pos q3] at h ⊢
          have h' := Option.some.inj h
          subst h'
          exact ⟨_, rfl, rfl⟩
        · rw [if_neg q3] at h ⊢
          by_cases q4 : fd_Ref_xMany s.o_this ≤ 0
          · rw [if_pos q4] at h ⊢
            have h' := Option.some.inj h
            subst h'
            exact ⟨_, rfl, rfl⟩
          · rw [if_neg q4] at h ⊢
            by_cases q5 : fd_Ref_fault s.o_this = 0
            · rw [if_pos q5] at h ⊢
              obtain ⟨s1, e1, h⟩ := Option.bind_eq_some_iff.mp h
              unfold mWork2 at e1
              obtain ⟨r1, f1, e1⟩ := Option.map_eq_some_iff.mp e1
              subst e1
              obtain ⟨r, g1, g2⟩ := ih _ _ h
              exact ⟨r, (bind_eq rfl).trans ((bind_eq f1).trans g1), g2⟩
            · rw [if_neg q5] at h ⊢
              have h' := Option.some.inj h
              subst h'
              exact ⟨_, rfl, rfl⟩
    · rw [if_neg q1] at h ⊢
      have h' := Option.some.inj h
      subst h'
      exact ⟨_, rfl, rfl⟩

theorem j296_2 {N : Nat} (s s' : RS) (u57 : rs_mDesk_comes) (u54 : Int32) (u51 : rs_mDesk_advance) (u39 : rs_mShelf_chosenGlyph) (x_o_this : ob_Ref) (x_o_sheet : ob_mSheet) (x_g_sheet_dots : Nat → Int64) (x_o_lines : ob_mLines) (x_o_job : ob_mPictures) (x_g_pages : Nat → Int32) (x_g_lines_line : Nat → Int32) (x_g_lines_above : Nat → Int32) (x_g_lines_out : Nat → Int32) (x_g_job_file : Nat → Int32) (x_g_job_places : Nat → Int32) (x_g_job_lengths : Nat → Int32) (h : (mEnd N (((x_o_this, x_g_pages, s.g_fresh, s.g_shownPages, s.g_tape, s.g_seed, s.g_xWhat, s.g_xId, s.g_toDo, s.g_toDoId, s.g_bytes2, s.g_bytes1), (x_o_job, x_g_job_file, x_g_job_places, x_g_job_lengths), (x_o_lines, s.n_lines_out, x_g_lines_out, x_g_lines_line, x_g_lines_above, s.g_lines_whiteRests, s.g_lines_blackRests, s.g_lines_whiteBlocks, s.g_lines_blackBlocks, s.g_lines_blocks, s.g_lines_modes, s.g_lines_readAbove, s.g_lines_readLine), (x_o_sheet, s.n_sheet_dots, x_g_sheet_dots), (u57.1, u57.2.1, s.g_desk_isKept, u51.2.1, u57.2.2.2.2.2, u57.2.2.1, u57.2.2.2.2.1, u57.2.2.2.1, s.g_desk_kept), s.2.2.2.2.2.1, s.2.2.2.2.2.2.1, s.2.2.2.2.2.2.2.1, s.2.2.2.2.2.2.2.2.1, s.2.2.2.2.2.2.2.2.2) : RS) u39.2 u54).bind (fun p => (if p.2 = true then mWork2 N p.1 else some p.1)) = some s') :
    ∃ r, jn_Ref_comes_c2_296f5 N s.g_xWhat s.g_xId s.o_shelf s.g_shelf_ids s.g_shelf_attributes s.g_shelf_permanent s.g_shelf_glyph 14 s.g_shelf_wishes 2 s.g_shelf_pins s.g_seed s.g_fresh s.g_shelf_store 7 s.g_shelf_draft s.g_shelf_coming s.g_shelf_bytes s.n_sheet_dots u57 u54 s.g_shelf_left u51 (s.o_this, s.o_desk, s.o_macros, s.g_toDo, s.g_toDoId, s.g_macros_ids, s.g_macros_permanent, s.g_macros_lengths, s.g_macros_store) u39 x_o_this x_o_sheet x_g_sheet_dots x_o_lines x_o_job x_g_pages x_g_lines_line x_g_lines_above x_g_lines_out x_g_job_file x_g_job_places x_g_job_lengths = some r ∧ s' = (((r.1, r.2.2.2.2.2.2.2.2.2.2.2.2.2.2.2.2.2.2.2.2.2.2.2.2.2.2.2.2.2.2.2.2.2.2.2.1, r.2.2.2.2.2.2.2.2.2.2.2.2.2.2.2.2.2.2.2.2.2.2.2.2.2.2.2.1, s.g_shownPages, s.g_tape, r.2.2.2.2.2.2.2.2.2.2.2.2.2.2.2.2.2.2.2.2.2.2.2.2.2.2.1, r.2.2.2.1, r.2.2.2.2.1, r.2.2.2.2.2.1, r.2.2.2.2.2.2.1, s.g_bytes2, s.g_bytes1), (r.2.2.2.2.2.2.2.2.2.2.2.2.2.2.2.2.2.2.2.2.2.2.2.2.2.2.2.2.2.2.2.2.2.2.1, r.2.2.2.2.2.2.2.2.2.2.2.2.2.2.2.2.2.2.2.2.2.2.2.2.2.2.2.2.2.2.2.2.2.2.2.2.2.2.2.1, r.2.2.2.2.2.2.2.2.2.2.2.2.2.2.2.2.2.2.2.2.2.2.2.2.2.2.2.2.2.2.2.2.2.2.2.2.2.2.2.2.1, r.2.2.2.2.2.2.2.2.2.2.2.2.2.2.2.2.2.2.2.2.2.2.2.2.2.2.2.2.2.2.2.2.2.2.2.2.2.2.2.2.2), (r.2.2.2.2.2.2.2.2.2.2.2.2.2.2.2.2.2.2.2.2.2.2.2.2.2.2.2.2.2.2.2.2.2.1, s.n_lines_out, r.2.2.2.2.2.2.2.2.2.2.2.2.2.2.2.2.2.2.2.2.2.2.2.2.2.2.2.2.2.2.2.2.2.2.2.2.2.2.1, r.2.2.2.2.2.2.2.2.2.2.2.2.2.2.2.2.2.2.2.2.2.2.2.2.2.2.2.2.2.2.2.2.2.2.2.2.1, r.2.2.2.2.2.2.2.2.2.2.2.2.2.2.2.2.2.2.2.2.2.2.2.2.2.2.2.2.2.2.2.2.2.2.2.2.2.1, s.g_lines_whiteRests, s.g_lines_blackRests, s.g_lines_whiteBlocks, s.g_lines_blackBlocks, s.g_lines_blocks, s.g_lines_modes, s.g_lines_readAbove, s.g_lines_readLine), (r.2.2.2.2.2.2.2.2.2.2.2.2.2.2.2.2.2.2.2.2.2.2.2.2.2.1, s.n_sheet_dots, r.2.2.2.2.2.2.2.2.2.2.2.2.2.2.2.2.2.2.2.2.2.2.2.2.2.2.2.2.2.2.2.2.1), (r.2.1, r.2.2.2.2.2.2.2.2.2.2.2.1, s.g_desk_isKept, r.2.2.2.2.2.2.2.2.2.2.2.2.2.2.2.2.2.2.2.2.1, r.2.2.2.2.2.2.2.2.2.2.2.2.2.2.2.2.2.2.2.2.2.2.2.2.1, r.2.2.2.2.2.2.2.2.2.2.2.2.2.2.2.2.2.2.2.2.2.2.1, r.2.2.2.2.2.2.2.2.2.2.2.2.2.2.2.2.2.2.2.2.2.2.2.1, r.2.2.2.2.2.2.2.2.2.2.2.2.2.2.2.2.2.2.2.2.2.1, s.g_desk_kept), (r.2.2.2.2.2.2.2.2.2.2.2.2.1, r.2.2.2.2.2.2.2.2.2.2.2.2.2.1, r.2.2.2.2.2.2.2.2.2.2.2.2.2.2.1, r.2.2.2.2.2.2.2.2.2.2.2.2.2.2.2.1, r.2.2.2.2.2.2.2.2.2.2.2.2.2.2.2.2.1, r.2.2.2.2.2.2.2.2.2.2.2.2.2.2.2.2.2.2.2.2.2.2.2.2.2.2.2.2.1, r.2.2.2.2.2.2.2.2.2.2.2.2.2.2.2.2.2.2.2.2.2.2.2.2.2.2.2.2.2.1, r.2.2.2.2.2.2.2.2.2.2.2.2.2.2.2.2.2.1, r.2.2.2.2.2.2.2.2.2.2.2.2.2.2.2.2.2.2.1, r.2.2.2.2.2.2.2.2.2.2.2.2.2.2.2.2.2.2.2.2.2.2.2.2.2.2.2.2.2.2.1, r.2.2.2.2.2.2.2.2.2.2.2.2.2.2.2.2.2.2.2.2.2.2.2.2.2.2.2.2.2.2.2.1, r.2.2.2.2.2.2.2.2.2.2.2.2.2.2.2.2.2.2.2.1), (r.2.2.1, r.2.2.2.2.2.2.2.1, r.2.2.2.2.2.2.2.2.1, r.2.2.2.2.2.2.2.2.2.1, r.2.2.2.2.2.2.2.2.2.2.1, s.g_macros_buffer), s.2.2.2.2.2.2.2.1, s.2.2.2.2.2.2.2.2.1, s.2.2.2.2.2.2.2.2.2) : RS) := by
  obtain ⟨p, h, hw⟩ := Option.bind_eq_some_iff.mp h
  unfold mEnd at h
  obtain ⟨s4, h4, h⟩ := Option.bind_eq_some_iff.mp h
  unfold mTail at h4
  obtain ⟨s5, e1, h4⟩ := Option.bind_eq_some_iff.mp h4
  unfold mMeasure at e1
  obtain ⟨r1, f1, e1⟩ := Option.map_eq_some_iff.mp e1
  subst e1
  unfold jn_Ref_comes_c2_296f5
  by_cases q1 : fd_mDesk_came u57.1 = 0
  · rw [if_pos q1] at h4
    have e2 := h4
    obtain ⟨r, g1, rfl⟩ := oth_316g6_2 _ _ _ e2
    by_cases q2 : u54 = 0
    · rw [if_pos q2] at h
      have hp := Option.some.inj h
      subst hp
      have h9 := Option.some.inj hw
      subst h9
      exact ⟨_, (bind_eq f1).trans ((if_pos q1).trans ((bind_eq g1).trans (if_pos q2))), rfl⟩
    · rw [if_neg q2] at h
      obtain ⟨z, e3, h⟩ := Option.bind_eq_some_iff.mp h
      have hp := Option.some.inj h
      subst hp
      unfold mIsSeq at e3
      rw [Option.map_id'] at e3
      by_cases q3 : z = 0
      · rw [if_pos (decide_eq_true q3)] at hw
        unfold mWork2 at hw
        obtain ⟨r3, f3, e9⟩ := Option.map_eq_some_iff.mp hw
        subst e9
        exact ⟨_, (bind_eq f1).trans ((if_pos q1).trans ((bind_eq g1).trans ((if_neg q2).trans ((bind_eq e3).trans ((if_pos q3).trans (bind_eq f3)))))), rfl⟩
      · rw [if_neg (show ¬ decide (z = 0) = true from fun hq => q3 (of_decide_eq_true hq))] at hw
        have h9 := Option.some.inj hw
        subst h9
        exact ⟨_, (bind_eq f1).trans ((if_pos q1).trans ((bind_eq g1).trans ((if_neg q2).trans ((bind_eq e3).trans (if_neg q3))))), rfl⟩
  · rw [if_neg q1] at h4
    obtain ⟨s6, e7, e2⟩ := Option.bind_eq_some_iff.mp h4
    unfold mPaint at e7
    obtain ⟨r7, f7, e7⟩ := Option.map_eq_some_iff.mp e7
    subst e7
    obtain ⟨r, g1, rfl⟩ := oth_316i8_2 _ _ _ e2
    by_cases q2 : u54 = 0
    · rw [if_pos q2] at h
      have hp := Option.some.inj h
      subst hp
      have h9 := Option.some.inj hw
      subst h9
      exact ⟨_, (bind_eq f1).trans ((if_neg q1).trans ((bind_eq f7).trans ((bind_eq g1).trans (if_pos q2)))), rfl⟩
    · rw [if_neg q2] at h
      obtain ⟨z, e3, h⟩ := Option.bind_eq_some_iff.mp h
      have hp := Option.some.inj h
      subst hp
      unfold mIsSeq at e3
      rw [Option.map_id'] at e3
      by_cases q3 : z = 0
      · rw [if_pos (decide_eq_true q3)] at hw
        unfold mWork2 at hw
        obtain ⟨r3, f3, e9⟩ := Option.map_eq_some_iff.mp hw
        subst e9
        exact ⟨_, (bind_eq f1).trans ((if_neg q1).trans ((bind_eq f7).trans ((bind_eq g1).trans ((if_neg q2).trans ((bind_eq e3).trans ((if_pos q3).trans (bind_eq f3))))))), rfl⟩
      · rw [if_neg (show ¬ decide (z = 0) = true from fun hq => q3 (of_decide_eq_true hq))] at hw
        have h9 := Option.some.inj hw
        subst h9
        exact ⟨_, (bind_eq f1).trans ((if_neg q1).trans ((bind_eq f7).trans ((bind_eq g1).trans ((if_neg q2).trans ((bind_eq e3).trans (if_neg q3)))))), rfl⟩

def mStop1 (N : Nat) : Nat → RS → Int32 → Option RS
  | 0, _, _ => none
  | n + 1, s, b => if b = 27 then (if fd_mDesk_phase s.o_desk ≤ 1 then some s else (if (4 : Int32) ≤ fd_mDesk_phase s.o_desk then some s else (if fd_Ref_xMany s.o_this ≤ 0 then some s else (if fd_Ref_fault s.o_this = 0 then (mWork1 N (mStopped s)).bind (fun s1 => mStop1 N n s1 b) else some s)))) else some s

theorem stop_1 {N : Nat} {b : Int32} : ∀ (n : Nat) (s s' : RS), mStop1 N n s b = some s' → ∃ r, lp_Ref_comes_c1_31 N 7 14 2 s.n_sheet_dots s.g_lines_whiteRests s.g_lines_blackRests s.g_lines_whiteBlocks s.g_lines_blackBlocks s.g_lines_blocks s.g_lines_modes s.n_lines_out b n s.o_this s.o_desk s.o_shelf s.o_macros s.o_sheet s.o_lines s.o_job s.g_pages s.g_seed s.g_fresh s.g_xWhat s.g_xId s.g_toDo s.g_toDoId s.g_bytes2 s.g_desk_state s.g_desk_kept s.g_desk_isKept s.g_desk_steps s.g_desk_glyph s.g_desk_page s.g_desk_other s.g_desk_store s.g_shelf_ids s.g_shelf_attributes s.g_shelf_permanent s.g_shelf_glyph s.g_shelf_store s.g_shelf_draft s.g_shelf_wishes s.g_shelf_pins s.g_shelf_coming s.g_shelf_bytes s.g_shelf_left s.g_macros_ids s.g_macros_permanent s.g_macros_lengths s.g_macros_store s.g_sheet_dots s.g_lines_line s.g_lines_above s.g_lines_out s.g_job_file s.g_job_places s.g_job_lengths = some r ∧ s' = (((r.1, r.2.2.2.2.2.2.2.1, r.2.2.2.2.2.2.2.2.2.1, s.g_shownPages, s.g_tape, r.2.2.2.2.2.2.2.2.1, r.2.2.2.2.2.2.2.2.2.2.1, r.2.2.2.2.2.2.2.2.2.2.2.1, r.2.2.2.2.2.2.2.2.2.2.2.2.1, r.2.2.2.2.2.2.2.2.2.2.2.2.2.1, r.2.2.2.2.2.2.2.2.2.2.2.2.2.2.1, s.g_bytes1), (r.2.2.2.2.2.2.1, r.2.2.2.2.2.2.2.2.2.2.2.2.2.2.2.2.2.2.2.2.2.2.2.2.2.2.2.2.2.2.2.2.2.2.2.2.2.2.2.2.2.2.1, r.2.2.2.2.2.2.2.2.2.2.2.2.2.2.2.2.2.2.2.2.2.2.2.2.2.2.2.2.2.2.2.2.2.2.2.2.2.2.2.2.2.2.2.1, r.2.2.2.2.2.2.2.2.2.2.2.2.2.2.2.2.2.2.2.2.2.2.2.2.2.2.2.2.2.2.2.2.2.2.2.2.2.2.2.2.2.2.2.2), (r.2.2.2.2.2.1, s.n_lines_out, r.2.2.2.2.2.2.2.2.2.2.2.2.2.2.2.2.2.2.2.2.2.2.2.2.2.2.2.2.2.2.2.2.2.2.2.2.2.2.2.2.2.1, r.2.2.2.2.2.2.2.2.2.2.2.2.2.2.2.2.2.2.2.2.2.2.2.2.2.2.2.2.2.2.2.2.2.2.2.2.2.2.2.1, r.2.2.2.2.2.2.2.2.2.2.2.2.2.2.2.2.2.2.2.2.2.2.2.2.2.2.2.2.2.2.2.2.2.2.2.2.2.2.2.2.1, s.g_lines_whiteRests, s.g_lines_blackRests, s.g_lines_whiteBlocks, s.g_lines_blackBlocks, s.g_lines_blocks, s.g_lines_modes, s.g_lines_readAbove, s.g_lines_readLine), (r.2.2.2.2.1, s.n_sheet_dots, r.2.2.2.2.2.2.2.2.2.2.2.2.2.2.2.2.2.2.2.2.2.2.2.2.2.2.2.2.2.2.2.2.2.2.2.2.2.2.1), (r.2.1, r.2.2.2.2.2.2.2.2.2.2.2.2.2.2.2.1, r.2.2.2.2.2.2.2.2.2.2.2.2.2.2.2.2.2.1, r.2.2.2.2.2.2.2.2.2.2.2.2.2.2.2.2.2.2.1, r.2.2.2.2.2.2.2.2.2.2.2.2.2.2.2.2.2.2.2.2.2.2.1, r.2.2.2.2.2.2.2.2.2.2.2.2.2.2.2.2.2.2.2.2.1, r.2.2.2.2.2.2.2.2.2.2.2.2.2.2.2.2.2.2.2.2.2.1, r.2.2.2.2.2.2.2.2.2.2.2.2.2.2.2.2.2.2.2.1, r.2.2.2.2.2.2.2.2.2.2.2.2.2.2.2.2.1), (r.2.2.1, r.2.2.2.2.2.2.2.2.2.2.2.2.2.2.2.2.2.2.2.2.2.2.2.1, r.2.2.2.2.2.2.2.2.2.2.2.2.2.2.2.2.2.2.2.2.2.2.2.2.1, r.2.2.2.2.2.2.2.2.2.2.2.2.2.2.2.2.2.2.2.2.2.2.2.2.2.1, r.2.2.2.2.2.2.2.2.2.2.2.2.2.2.2.2.2.2.2.2.2.2.2.2.2.2.1, r.2.2.2.2.2.2.2.2.2.2.2.2.2.2.2.2.2.2.2.2.2.2.2.2.2.2.2.1, r.2.2.2.2.2.2.2.2.2.2.2.2.2.2.2.2.2.2.2.2.2.2.2.2.2.2.2.2.1, r.2.2.2.2.2.2.2.2.2.2.2.2.2.2.2.2.2.2.2.2.2.2.2.2.2.2.2.2.2.1, r.2.2.2.2.2.2.2.2.2.2.2.2.2.2.2.2.2.2.2.2.2.2.2.2.2.2.2.2.2.2.1, r.2.2.2.2.2.2.2.2.2.2.2.2.2.2.2.2.2.2.2.2.2.2.2.2.2.2.2.2.2.2.2.1, r.2.2.2.2.2.2.2.2.2.2.2.2.2.2.2.2.2.2.2.2.2.2.2.2.2.2.2.2.2.2.2.2.1, r.2.2.2.2.2.2.2.2.2.2.2.2.2.2.2.2.2.2.2.2.2.2.2.2.2.2.2.2.2.2.2.2.2.1), (r.2.2.2.1, r.2.2.2.2.2.2.2.2.2.2.2.2.2.2.2.2.2.2.2.2.2.2.2.2.2.2.2.2.2.2.2.2.2.2.1, r.2.2.2.2.2.2.2.2.2.2.2.2.2.2.2.2.2.2.2.2.2.2.2.2.2.2.2.2.2.2.2.2.2.2.2.1, r.2.2.2.2.2.2.2.2.2.2.2.2.2.2.2.2.2.2.2.2.2.2.2.2.2.2.2.2.2.2.2.2.2.2.2.2.1, r.2.2.2.2.2.2.2.2.2.2.2.2.2.2.2.2.2.2.2.2.2.2.2.2.2.2.2.2.2.2.2.2.2.2.2.2.2.1, s.g_macros_buffer), s.2.2.2.2.2.2.2.1, s.2.2.2.2.2.2.2.2.1, s.2.2.2.2.2.2.2.2.2) : RS) := by
  intro n
  induction n with
  | zero => intro s s' h; exact absurd h (by intro q; cases q)
  | succ n ih =>
    intro s s' h
    rw [mStop1] at h
    rw [lp_Ref_comes_c1_31]
    by_cases q1 : b = 27
    · rw [if_pos q1] at h ⊢
      by_cases q2 : fd_mDesk_phase s.o_desk ≤ 1
      · rw [if_pos q2] at h ⊢
        have h' := Option.some.inj h
        subst h'
        exact ⟨_, rfl, rfl⟩
      · rw [if_neg q2] at h ⊢
        by_cases q3 : (4 : Int32) ≤ fd_mDesk_phase s.o_desk
        · rw [if_pos q3] at h ⊢
          have h' := Option.some.inj h
          subst h'
          exact ⟨_, rfl, rfl⟩
        · rw [if_neg q3] at h ⊢
          by_cases q4 : fd_Ref_xMany s.o_this ≤ 0
          · rw [if_pos q4] at h ⊢
            have h' := Option.some.inj h
            subst h'
            exact ⟨_, rfl, rfl⟩
          · rw [if_neg q4] at h ⊢
            by_cases q5 : fd_Ref_fault s.o_this = 0
            · rw [if_pos q5] at h ⊢
              obtain ⟨s1, e1, h⟩ := Option.bind_eq_some_iff.mp h
              unfold mWork1 at e1
              obtain ⟨r1, f1, e1⟩ := Option.map_eq_some_iff.mp e1
              subst e1
              obtain ⟨r, g1, g2⟩ := ih _ _ h
              exact ⟨r, (bind_eq rfl).trans ((bind_eq f1).trans g1), g2⟩
            · rw [if_neg q5] at h ⊢
              have h' := Option.some.inj h
              subst h'
              exact ⟨_, rfl, rfl⟩
    · rw [if_neg q1] at h ⊢
      have h' := Option.some.inj h
      subst h'
      exact ⟨_, rfl, rfl⟩

theorem j296_1 {N : Nat} (s s' : RS) (u57 : rs_mDesk_comes) (u54 : Int32) (u51 : rs_mDesk_advance) (u39 : rs_mShelf_chosenGlyph) (x_o_this : ob_Ref) (x_o_sheet : ob_mSheet) (x_o_lines : ob_mLines) (x_o_job : ob_mPictures) (x_g_pages : Nat → Int32) (x_g_sheet_dots : Nat → Int64) (x_g_lines_line : Nat → Int32) (x_g_lines_above : Nat → Int32) (x_g_lines_out : Nat → Int32) (x_g_job_file : Nat → Int32) (x_g_job_places : Nat → Int32) (x_g_job_lengths : Nat → Int32) (h : (mEnd N (((x_o_this, x_g_pages, s.g_fresh, s.g_shownPages, s.g_tape, s.g_seed, s.g_xWhat, s.g_xId, s.g_toDo, s.g_toDoId, s.g_bytes2, s.g_bytes1), (x_o_job, x_g_job_file, x_g_job_places, x_g_job_lengths), (x_o_lines, s.n_lines_out, x_g_lines_out, x_g_lines_line, x_g_lines_above, s.g_lines_whiteRests, s.g_lines_blackRests, s.g_lines_whiteBlocks, s.g_lines_blackBlocks, s.g_lines_blocks, s.g_lines_modes, s.g_lines_readAbove, s.g_lines_readLine), (x_o_sheet, s.n_sheet_dots, x_g_sheet_dots), (u57.1, u57.2.1, s.g_desk_isKept, u51.2.1, u57.2.2.2.2.2, u57.2.2.1, u57.2.2.2.2.1, u57.2.2.2.1, s.g_desk_kept), s.2.2.2.2.2.1, s.2.2.2.2.2.2.1, s.2.2.2.2.2.2.2.1, s.2.2.2.2.2.2.2.2.1, s.2.2.2.2.2.2.2.2.2) : RS) u39.2 u54).bind (fun p => (if p.2 = true then mWork1 N p.1 else some p.1)) = some s') :
    ∃ r, jn_Ref_comes_c1_296f5 N 7 14 2 s.n_sheet_dots s.g_lines_whiteRests s.g_lines_blackRests s.g_lines_whiteBlocks s.g_lines_blackBlocks s.g_lines_blocks s.g_lines_modes s.n_lines_out u57 (s.o_this, s.o_desk, s.o_shelf, s.o_macros, s.o_sheet, s.o_lines, s.o_job, s.g_pages, s.g_seed, s.g_fresh, s.g_xWhat, s.g_xId, s.g_toDo, s.g_toDoId, s.g_bytes2, s.g_desk_state, s.g_desk_kept, s.g_desk_isKept, s.g_desk_steps, s.g_desk_glyph, s.g_desk_page, s.g_desk_other, s.g_desk_store, s.g_shelf_ids, s.g_shelf_attributes, s.g_shelf_permanent, s.g_shelf_glyph, s.g_shelf_store, s.g_shelf_draft, s.g_shelf_wishes, s.g_shelf_pins, s.g_shelf_coming, s.g_shelf_bytes, s.g_shelf_left, s.g_macros_ids, s.g_macros_permanent, s.g_macros_lengths, s.g_macros_store, s.g_sheet_dots, s.g_lines_line, s.g_lines_above, s.g_lines_out, s.g_job_file, s.g_job_places, s.g_job_lengths) u54 s.g_shelf_left u51 u39 x_o_this x_o_sheet x_o_lines x_o_job x_g_pages x_g_sheet_dots x_g_lines_line x_g_lines_above x_g_lines_out x_g_job_file x_g_job_places x_g_job_lengths = some r ∧ s' = (((r.1, r.2.2.2.2.2.2.2.1, r.2.2.2.2.2.2.2.2.2.1, s.g_shownPages, s.g_tape, r.2.2.2.2.2.2.2.2.1, r.2.2.2.2.2.2.2.2.2.2.1, r.2.2.2.2.2.2.2.2.2.2.2.1, r.2.2.2.2.2.2.2.2.2.2.2.2.1, r.2.2.2.2.2.2.2.2.2.2.2.2.2.1, r.2.2.2.2.2.2.2.2.2.2.2.2.2.2.1, s.g_bytes1), (r.2.2.2.2.2.2.1, r.2.2.2.2.2.2.2.2.2.2.2.2.2.2.2.2.2.2.2.2.2.2.2.2.2.2.2.2.2.2.2.2.2.2.2.2.2.2.2.2.2.2.1, r.2.2.2.2.2.2.2.2.2.2.2.2.2.2.2.2.2.2.2.2.2.2.2.2.2.2.2.2.2.2.2.2.2.2.2.2.2.2.2.2.2.2.2.1, r.2.2.2.2.2.2.2.2.2.2.2.2.2.2.2.2.2.2.2.2.2.2.2.2.2.2.2.2.2.2.2.2.2.2.2.2.2.2.2.2.2.2.2.2), (r.2.2.2.2.2.1, s.n_lines_out, r.2.2.2.2.2.2.2.2.2.2.2.2.2.2.2.2.2.2.2.2.2.2.2.2.2.2.2.2.2.2.2.2.2.2.2.2.2.2.2.2.2.1, r.2.2.2.2.2.2.2.2.2.2.2.2.2.2.2.2.2.2.2.2.2.2.2.2.2.2.2.2.2.2.2.2.2.2.2.2.2.2.2.1, r.2.2.2.2.2.2.2.2.2.2.2.2.2.2.2.2.2.2.2.2.2.2.2.2.2.2.2.2.2.2.2.2.2.2.2.2.2.2.2.2.1, s.g_lines_whiteRests, s.g_lines_blackRests, s.g_lines_whiteBlocks, s.g_lines_blackBlocks, s.g_lines_blocks, s.g_lines_modes, s.g_lines_readAbove, s.g_lines_readLine), (r.2.2.2.2.1, s.n_sheet_dots, r.2.2.2.2.2.2.2.2.2.2.2.2.2.2.2.2.2.2.2.2.2.2.2.2.2.2.2.2.2.2.2.2.2.2.2.2.2.2.1), (r.2.1, r.2.2.2.2.2.2.2.2.2.2.2.2.2.2.2.1, r.2.2.2.2.2.2.2.2.2.2.2.2.2.2.2.2.2.1, r.2.2.2.2.2.2.2.2.2.2.2.2.2.2.2.2.2.2.1, r.2.2.2.2.2.2.2.2.2.2.2.2.2.2.2.2.2.2.2.2.2.2.1, r.2.2.2.2.2.2.2.2.2.2.2.2.2.2.2.2.2.2.2.2.1, r.2.2.2.2.2.2.2.2.2.2.2.2.2.2.2.2.2.2.2.2.2.1, r.2.2.2.2.2.2.2.2.2.2.2.2.2.2.2.2.2.2.2.1, r.2.2.2.2.2.2.2.2.2.2.2.2.2.2.2.2.1), (r.2.2.1, r.2.2.2.2.2.2.2.2.2.2.2.2.2.2.2.2.2.2.2.2.2.2.2.1, r.2.2.2.2.2.2.2.2.2.2.2.2.2.2.2.2.2.2.2.2.2.2.2.2.1, r.2.2.2.2.2.2.2.2.2.2.2.2.2.2.2.2.2.2.2.2.2.2.2.2.2.1, r.2.2.2.2.2.2.2.2.2.2.2.2.2.2.2.2.2.2.2.2.2.2.2.2.2.2.1, r.2.2.2.2.2.2.2.2.2.2.2.2.2.2.2.2.2.2.2.2.2.2.2.2.2.2.2.1, r.2.2.2.2.2.2.2.2.2.2.2.2.2.2.2.2.2.2.2.2.2.2.2.2.2.2.2.2.1, r.2.2.2.2.2.2.2.2.2.2.2.2.2.2.2.2.2.2.2.2.2.2.2.2.2.2.2.2.2.1, r.2.2.2.2.2.2.2.2.2.2.2.2.2.2.2.2.2.2.2.2.2.2.2.2.2.2.2.2.2.2.1, r.2.2.2.2.2.2.2.2.2.2.2.2.2.2.2.2.2.2.2.2.2.2.2.2.2.2.2.2.2.2.2.1, r.2.2.2.2.2.2.2.2.2.2.2.2.2.2.2.2.2.2.2.2.2.2.2.2.2.2.2.2.2.2.2.2.1, r.2.2.2.2.2.2.2.2.2.2.2.2.2.2.2.2.2.2.2.2.2.2.2.2.2.2.2.2.2.2.2.2.2.1), (r.2.2.2.1, r.2.2.2.2.2.2.2.2.2.2.2.2.2.2.2.2.2.2.2.2.2.2.2.2.2.2.2.2.2.2.2.2.2.2.1, r.2.2.2.2.2.2.2.2.2.2.2.2.2.2.2.2.2.2.2.2.2.2.2.2.2.2.2.2.2.2.2.2.2.2.2.1, r.2.2.2.2.2.2.2.2.2.2.2.2.2.2.2.2.2.2.2.2.2.2.2.2.2.2.2.2.2.2.2.2.2.2.2.2.1, r.2.2.2.2.2.2.2.2.2.2.2.2.2.2.2.2.2.2.2.2.2.2.2.2.2.2.2.2.2.2.2.2.2.2.2.2.2.1, s.g_macros_buffer), s.2.2.2.2.2.2.2.1, s.2.2.2.2.2.2.2.2.1, s.2.2.2.2.2.2.2.2.2) : RS) := by
  obtain ⟨p, h, hw⟩ := Option.bind_eq_some_iff.mp h
  unfold mEnd at h
  obtain ⟨s4, h4, h⟩ := Option.bind_eq_some_iff.mp h
  unfold mTail at h4
  obtain ⟨s5, e1, h4⟩ := Option.bind_eq_some_iff.mp h4
  unfold mMeasure at e1
  obtain ⟨r1, f1, e1⟩ := Option.map_eq_some_iff.mp e1
  subst e1
  unfold jn_Ref_comes_c1_296f5
  by_cases q1 : fd_mDesk_came u57.1 = 0
  · rw [if_pos q1] at h4
    have e2 := h4
    obtain ⟨r, g1, rfl⟩ := oth_316g6_1 _ _ _ e2
    by_cases q2 : u54 = 0
    · rw [if_pos q2] at h
      have hp := Option.some.inj h
      subst hp
      have h9 := Option.some.inj hw
      subst h9
      exact ⟨_, (bind_eq f1).trans ((if_pos q1).trans ((bind_eq g1).trans (if_pos q2))), rfl⟩
    · rw [if_neg q2] at h
      obtain ⟨z, e3, h⟩ := Option.bind_eq_some_iff.mp h
      have hp := Option.some.inj h
      subst hp
      unfold mIsSeq at e3
      rw [Option.map_id'] at e3
      by_cases q3 : z = 0
      · rw [if_pos (decide_eq_true q3)] at hw
        unfold mWork1 at hw
        obtain ⟨r3, f3, e9⟩ := Option.map_eq_some_iff.mp hw
        subst e9
        exact ⟨_, (bind_eq f1).trans ((if_pos q1).trans ((bind_eq g1).trans ((if_neg q2).trans ((bind_eq e3).trans ((if_pos q3).trans (bind_eq f3)))))), rfl⟩
      · rw [if_neg (show ¬ decide (z = 0) = true from fun hq => q3 (of_decide_eq_true hq))] at hw
        have h9 := Option.some.inj hw
        subst h9
        exact ⟨_, (bind_eq f1).trans ((if_pos q1).trans ((bind_eq g1).trans ((if_neg q2).trans ((bind_eq e3).trans (if_neg q3))))), rfl⟩
  · rw [if_neg q1] at h4
    obtain ⟨s6, e7, e2⟩ := Option.bind_eq_some_iff.mp h4
    unfold mPaint at e7
    obtain ⟨r7, f7, e7⟩ := Option.map_eq_some_iff.mp e7
    subst e7
    obtain ⟨r, g1, rfl⟩ := oth_316i8_1 _ _ _ e2
    by_cases q2 : u54 = 0
    · rw [if_pos q2] at h
      have hp := Option.some.inj h
      subst hp
      have h9 := Option.some.inj hw
      subst h9
      exact ⟨_, (bind_eq f1).trans ((if_neg q1).trans ((bind_eq f7).trans ((bind_eq g1).trans (if_pos q2)))), rfl⟩
    · rw [if_neg q2] at h
      obtain ⟨z, e3, h⟩ := Option.bind_eq_some_iff.mp h
      have hp := Option.some.inj h
      subst hp
      unfold mIsSeq at e3
      rw [Option.map_id'] at e3
      by_cases q3 : z = 0
      · rw [if_pos (decide_eq_true q3)] at hw
        unfold mWork1 at hw
        obtain ⟨r3, f3, e9⟩ := Option.map_eq_some_iff.mp hw
        subst e9
        exact ⟨_, (bind_eq f1).trans ((if_neg q1).trans ((bind_eq f7).trans ((bind_eq g1).trans ((if_neg q2).trans ((bind_eq e3).trans ((if_pos q3).trans (bind_eq f3))))))), rfl⟩
      · rw [if_neg (show ¬ decide (z = 0) = true from fun hq => q3 (of_decide_eq_true hq))] at hw
        have h9 := Option.some.inj hw
        subst h9
        exact ⟨_, (bind_eq f1).trans ((if_neg q1).trans ((bind_eq f7).trans ((bind_eq g1).trans ((if_neg q2).trans ((bind_eq e3).trans (if_neg q3)))))), rfl⟩

def mStop0 (N : Nat) : Nat → RS → Int32 → Option RS
  | 0, _, _ => none
  | n + 1, s, b => if b = 27 then (if fd_mDesk_phase s.o_desk ≤ 1 then some s else (if (4 : Int32) ≤ fd_mDesk_phase s.o_desk then some s else (if fd_Ref_xMany s.o_this ≤ 0 then some s else (if fd_Ref_fault s.o_this = 0 then (if fd_mMacros_reading s.o_macros = 0 then (mWork0 N (mStopped s)).bind (fun s1 => mStop0 N n s1 b) else some s) else some s)))) else some s

theorem stop_0 {N : Nat} {b : Int32} : ∀ (n : Nat) (s s' : RS), mStop0 N n s b = some s' → ∃ r, lp_Ref_comes_c0_31 N 7 14 2 s.n_sheet_dots s.g_lines_whiteRests s.g_lines_blackRests s.g_lines_whiteBlocks s.g_lines_blackBlocks s.g_lines_blocks s.g_lines_modes s.n_lines_out b n s.o_this s.o_macros s.o_desk s.o_shelf s.o_sheet s.o_lines s.o_job s.g_pages s.g_seed s.g_fresh s.g_xWhat s.g_xId s.g_toDo s.g_toDoId s.g_bytes1 s.g_bytes2 s.g_desk_state s.g_desk_kept s.g_desk_isKept s.g_desk_steps s.g_desk_glyph s.g_desk_page s.g_desk_other s.g_desk_store s.g_shelf_ids s.g_shelf_attributes s.g_shelf_permanent s.g_shelf_glyph s.g_shelf_store s.g_shelf_draft s.g_shelf_wishes s.g_shelf_pins s.g_shelf_coming s.g_shelf_bytes s.g_shelf_left s.g_macros_ids s.g_macros_permanent s.g_macros_lengths s.g_macros_store s.g_sheet_dots s.g_lines_line s.g_lines_above s.g_lines_out s.g_job_file s.g_job_places s.g_job_lengths = some r ∧ s' = (((r.1, r.2.2.2.2.2.2.2.1, r.2.2.2.2.2.2.2.2.2.1, s.g_shownPages, s.g_tape, r.2.2.2.2.2.2.2.2.1, r.2.2.2.2.2.2.2.2.2.2.1, r.2.2.2.2.2.2.2.2.2.2.2.1, r.2.2.2.2.2.2.2.2.2.2.2.2.1, r.2.2.2.2.2.2.2.2.2.2.2.2.2.1, r.2.2.2.2.2.2.2.2.2.2.2.2.2.2.2.1, r.2.2.2.2.2.2.2.2.2.2.2.2.2.2.1), (r.2.2.2.2.2.2.1, r.2.2.2.2.2.2.2.2.2.2.2.2.2.2.2.2.2.2.2.2.2.2.2.2.2.2.2.2.2.2.2.2.2.2.2.2.2.2.2.2.2.2.2.1, r.2.2.2.2.2.2.2.2.2.2.2.2.2.2.2.2.2.2.2.2.2.2.2.2.2.2.2.2.2.2.2.2.2.2.2.2.2.2.2.2.2.2.2.2.1, r.2.2.2.2.2.2.2.2.2.2.2.2.2.2.2.2.2.2.2.2.2.2.2.2.2.2.2.2.2.2.2.2.2.2.2.2.2.2.2.2.2.2.2.2.2), (r.2.2.2.2.2.1, s.n_lines_out, r.2.2.2.2.2.2.2.2.2.2.2.2.2.2.2.2.2.2.2.2.2.2.2.2.2.2.2.2.2.2.2.2.2.2.2.2.2.2.2.2.2.2.1, r.2.2.2.2.2.2.2.2.2.2.2.2.2.2.2.2.2.2.2.2.2.2.2.2.2.2.2.2.2.2.2.2.2.2.2.2.2.2.2.2.1, r.2.2.2.2.2.2.2.2.2.2.2.2.2.2.2.2.2.2.2.2.2.2.2.2.2.2.2.2.2.2.2.2.2.2.2.2.2.2.2.2.2.1, s.g_lines_whiteRests, s.g_lines_blackRests, s.g_lines_whiteBlocks, s.g_lines_blackBlocks, s.g_lines_blocks, s.g_lines_modes, s.g_lines_readAbove, s.g_lines_readLine), (r.2.2.2.2.1, s.n_sheet_dots, r.2.2.2.2.2.2.2.2.2.2.2.2.2.2.2.2.2.2.2.2.2.2.2.2.2.2.2.2.2.2.2.2.2.2.2.2.2.2.2.1), (r.2.2.1, r.2.2.2.2.2.2.2.2.2.2.2.2.2.2.2.2.1, r.2.2.2.2.2.2.2.2.2.2.2.2.2.2.2.2.2.2.1, r.2.2.2.2.2.2.2.2.2.2.2.2.2.2.2.2.2.2.2.1, r.2.2.2.2.2.2.2.2.2.2.2.2.2.2.2.2.2.2.2.2.2.2.2.1, r.2.2.2.2.2.2.2.2.2.2.2.2.2.2.2.2.2.2.2.2.2.1, r.2.2.2.2.2.2.2.2.2.2.2.2.2.2.2.2.2.2.2.2.2.2.1, r.2.2.2.2.2.2.2.2.2.2.2.2.2.2.2.2.2.2.2.2.1, r.2.2.2.2.2.2.2.2.2.2.2.2.2.2.2.2.2.1), (r.2.2.2.1, r.2.2.2.2.2.2.2.2.2.2.2.2.2.2.2.2.2.2.2.2.2.2.2.2.1, r.2.2.2.2.2.2.2.2.2.2.2.2.2.2.2.2.2.2.2.2.2.2.2.2.2.1, r.2.2.2.2.2.2.2.2.2.2.2.2.2.2.2.2.2.2.2.2.2.2.2.2.2.2.1, r.2.2.2.2.2.2.2.2.2.2.2.2.2.2.2.2.2.2.2.2.2.2.2.2.2.2.2.1, r.2.2.2.2.2.2.2.2.2.2.2.2.2.2.2.2.2.2.2.2.2.2.2.2.2.2.2.2.1, r.2.2.2.2.2.2.2.2.2.2.2.2.2.2.2.2.2.2.2.2.2.2.2.2.2.2.2.2.2.1, r.2.2.2.2.2.2.2.2.2.2.2.2.2.2.2.2.2.2.2.2.2.2.2.2.2.2.2.2.2.2.1, r.2.2.2.2.2.2.2.2.2.2.2.2.2.2.2.2.2.2.2.2.2.2.2.2.2.2.2.2.2.2.2.1, r.2.2.2.2.2.2.2.2.2.2.2.2.2.2.2.2.2.2.2.2.2.2.2.2.2.2.2.2.2.2.2.2.1, r.2.2.2.2.2.2.2.2.2.2.2.2.2.2.2.2.2.2.2.2.2.2.2.2.2.2.2.2.2.2.2.2.2.1, r.2.2.2.2.2.2.2.2.2.2.2.2.2.2.2.2.2.2.2.2.2.2.2.2.2.2.2.2.2.2.2.2.2.2.1), (r.2.1, r.2.2.2.2.2.2.2.2.2.2.2.2.2.2.2.2.2.2.2.2.2.2.2.2.2.2.2.2.2.2.2.2.2.2.2.1, r.2.2.2.2.2.2.2.2.2.2.2.2.2.2.2.2.2.2.2.2.2.2.2.2.2.2.2.2.2.2.2.2.2.2.2.2.1, r.2.2.2.2.2.2.2.2.2.2.2.2.2.2.2.2.2.2.2.2.2.2.2.2.2.2.2.2.2.2.2.2.2.2.2.2.2.1, r.2.2.2.2.2.2.2.2.2.2.2.2.2.2.2.2.2.2.2.2.2.2.2.2.2.2.2.2.2.2.2.2.2.2.2.2.2.2.1, s.g_macros_buffer), s.2.2.2.2.2.2.2.1, s.2.2.2.2.2.2.2.2.1, s.2.2.2.2.2.2.2.2.2) : RS) := by
  intro n
  induction n with
  | zero => intro s s' h; exact absurd h (by intro q; cases q)
  | succ n ih =>
    intro s s' h
    rw [mStop0] at h
    rw [lp_Ref_comes_c0_31]
    by_cases q1 : b = 27
    · rw [if_pos q1] at h ⊢
      by_cases q2 : fd_mDesk_phase s.o_desk ≤ 1
      · rw [if_pos q2] at h ⊢
        have h' := Option.some.inj h
        subst h'
        exact ⟨_, rfl, rfl⟩
      · rw [if_neg q2] at h ⊢
        by_cases q3 : (4 : Int32) ≤ fd_mDesk_phase s.o_desk
        · rw [if_pos q3] at h ⊢
          have h' := Option.some.inj h
          subst h'
          exact ⟨_, rfl, rfl⟩
        · rw [if_neg q3] at h ⊢
          by_cases q4 : fd_Ref_xMany s.o_this ≤ 0
          · rw [if_pos q4] at h ⊢
            have h' := Option.some.inj h
            subst h'
            exact ⟨_, rfl, rfl⟩
          · rw [if_neg q4] at h ⊢
            by_cases q5 : fd_Ref_fault s.o_this = 0
            · rw [if_pos q5] at h ⊢
              by_cases q6 : fd_mMacros_reading s.o_macros = 0
              · rw [if_pos q6] at h ⊢
                obtain ⟨s1, e1, h⟩ := Option.bind_eq_some_iff.mp h
                unfold mWork0 at e1
                obtain ⟨r1, f1, e1⟩ := Option.map_eq_some_iff.mp e1
                subst e1
                obtain ⟨r, g1, g2⟩ := ih _ _ h
                exact ⟨r, (bind_eq rfl).trans ((bind_eq f1).trans g1), g2⟩
              · rw [if_neg q6] at h ⊢
                have h' := Option.some.inj h
                subst h'
                exact ⟨_, rfl, rfl⟩
            · rw [if_neg q5] at h ⊢
              have h' := Option.some.inj h
              subst h'
              exact ⟨_, rfl, rfl⟩
    · rw [if_neg q1] at h ⊢
      have h' := Option.some.inj h
      subst h'
      exact ⟨_, rfl, rfl⟩

theorem j296_0 {N : Nat} (s s' : RS) (u57 : rs_mDesk_comes) (u54 : Int32) (u51 : rs_mDesk_advance) (u39 : rs_mShelf_chosenGlyph) (x_o_this : ob_Ref) (x_o_sheet : ob_mSheet) (x_o_lines : ob_mLines) (x_o_job : ob_mPictures) (x_g_pages : Nat → Int32) (x_g_sheet_dots : Nat → Int64) (x_g_lines_line : Nat → Int32) (x_g_lines_above : Nat → Int32) (x_g_lines_out : Nat → Int32) (x_g_job_file : Nat → Int32) (x_g_job_places : Nat → Int32) (x_g_job_lengths : Nat → Int32) (h : (mEnd N (((x_o_this, x_g_pages, s.g_fresh, s.g_shownPages, s.g_tape, s.g_seed, s.g_xWhat, s.g_xId, s.g_toDo, s.g_toDoId, s.g_bytes2, s.g_bytes1), (x_o_job, x_g_job_file, x_g_job_places, x_g_job_lengths), (x_o_lines, s.n_lines_out, x_g_lines_out, x_g_lines_line, x_g_lines_above, s.g_lines_whiteRests, s.g_lines_blackRests, s.g_lines_whiteBlocks, s.g_lines_blackBlocks, s.g_lines_blocks, s.g_lines_modes, s.g_lines_readAbove, s.g_lines_readLine), (x_o_sheet, s.n_sheet_dots, x_g_sheet_dots), (u57.1, u57.2.1, s.g_desk_isKept, u51.2.1, u57.2.2.2.2.2, u57.2.2.1, u57.2.2.2.2.1, u57.2.2.2.1, s.g_desk_kept), s.2.2.2.2.2.1, s.2.2.2.2.2.2.1, s.2.2.2.2.2.2.2.1, s.2.2.2.2.2.2.2.2.1, s.2.2.2.2.2.2.2.2.2) : RS) u39.2 u54).bind (fun p => (if p.2 = true then mWork0 N p.1 else some p.1)) = some s') :
    ∃ r, jn_Ref_comes_c0_296f5 N 7 14 2 s.n_sheet_dots s.g_lines_whiteRests s.g_lines_blackRests s.g_lines_whiteBlocks s.g_lines_blackBlocks s.g_lines_blocks s.g_lines_modes s.n_lines_out s.g_macros_buffer u57 (s.o_this, s.o_macros, s.o_desk, s.o_shelf, s.o_sheet, s.o_lines, s.o_job, s.g_pages, s.g_seed, s.g_fresh, s.g_xWhat, s.g_xId, s.g_toDo, s.g_toDoId, s.g_bytes1, s.g_bytes2, s.g_desk_state, s.g_desk_kept, s.g_desk_isKept, s.g_desk_steps, s.g_desk_glyph, s.g_desk_page, s.g_desk_other, s.g_desk_store, s.g_shelf_ids, s.g_shelf_attributes, s.g_shelf_permanent, s.g_shelf_glyph, s.g_shelf_store, s.g_shelf_draft, s.g_shelf_wishes, s.g_shelf_pins, s.g_shelf_coming, s.g_shelf_bytes, s.g_shelf_left, s.g_macros_ids, s.g_macros_permanent, s.g_macros_lengths, s.g_macros_store, s.g_sheet_dots, s.g_lines_line, s.g_lines_above, s.g_lines_out, s.g_job_file, s.g_job_places, s.g_job_lengths) u54 s.g_shelf_left u51 u39 x_o_this x_o_sheet x_o_lines x_o_job x_g_pages x_g_sheet_dots x_g_lines_line x_g_lines_above x_g_lines_out x_g_job_file x_g_job_places x_g_job_lengths = some r ∧ s' = (((r.1, r.2.2.2.2.2.2.2.1, r.2.2.2.2.2.2.2.2.2.1, s.g_shownPages, s.g_tape, r.2.2.2.2.2.2.2.2.1, r.2.2.2.2.2.2.2.2.2.2.1, r.2.2.2.2.2.2.2.2.2.2.2.1, r.2.2.2.2.2.2.2.2.2.2.2.2.1, r.2.2.2.2.2.2.2.2.2.2.2.2.2.1, r.2.2.2.2.2.2.2.2.2.2.2.2.2.2.2.1, r.2.2.2.2.2.2.2.2.2.2.2.2.2.2.1), (r.2.2.2.2.2.2.1, r.2.2.2.2.2.2.2.2.2.2.2.2.2.2.2.2.2.2.2.2.2.2.2.2.2.2.2.2.2.2.2.2.2.2.2.2.2.2.2.2.2.2.2.1, r.2.2.2.2.2.2.2.2.2.2.2.2.2.2.2.2.2.2.2.2.2.2.2.2.2.2.2.2.2.2.2.2.2.2.2.2.2.2.2.2.2.2.2.2.1, r.2.2.2.2.2.2.2.2.2.2.2.2.2.2.2.2.2.2.2.2.2.2.2.2.2.2.2.2.2.2.2.2.2.2.2.2.2.2.2.2.2.2.2.2.2.1), (r.2.2.2.2.2.1, s.n_lines_out, r.2.2.2.2.2.2.2.2.2.2.2.2.2.2.2.2.2.2.2.2.2.2.2.2.2.2.2.2.2.2.2.2.2.2.2.2.2.2.2.2.2.2.1, r.2.2.2.2.2.2.2.2.2.2.2.2.2.2.2.2.2.2.2.2.2.2.2.2.2.2.2.2.2.2.2.2.2.2.2.2.2.2.2.2.1, r.2.2.2.2.2.2.2.2.2.2.2.2.2.2.2.2.2.2.2.2.2.2.2.2.2.2.2.2.2.2.2.2.2.2.2.2.2.2.2.2.2.1, s.g_lines_whiteRests, s.g_lines_blackRests, s.g_lines_whiteBlocks, s.g_lines_blackBlocks, s.g_lines_blocks, s.g_lines_modes, s.g_lines_readAbove, s.g_lines_readLine), (r.2.2.2.2.1, s.n_sheet_dots, r.2.2.2.2.2.2.2.2.2.2.2.2.2.2.2.2.2.2.2.2.2.2.2.2.2.2.2.2.2.2.2.2.2.2.2.2.2.2.2.1), (r.2.2.1, r.2.2.2.2.2.2.2.2.2.2.2.2.2.2.2.2.1, r.2.2.2.2.2.2.2.2.2.2.2.2.2.2.2.2.2.2.1, r.2.2.2.2.2.2.2.2.2.2.2.2.2.2.2.2.2.2.2.1, r.2.2.2.2.2.2.2.2.2.2.2.2.2.2.2.2.2.2.2.2.2.2.2.1, r.2.2.2.2.2.2.2.2.2.2.2.2.2.2.2.2.2.2.2.2.2.1, r.2.2.2.2.2.2.2.2.2.2.2.2.2.2.2.2.2.2.2.2.2.2.1, r.2.2.2.2.2.2.2.2.2.2.2.2.2.2.2.2.2.2.2.2.1, r.2.2.2.2.2.2.2.2.2.2.2.2.2.2.2.2.2.1), (r.2.2.2.1, r.2.2.2.2.2.2.2.2.2.2.2.2.2.2.2.2.2.2.2.2.2.2.2.2.1, r.2.2.2.2.2.2.2.2.2.2.2.2.2.2.2.2.2.2.2.2.2.2.2.2.2.1, r.2.2.2.2.2.2.2.2.2.2.2.2.2.2.2.2.2.2.2.2.2.2.2.2.2.2.1, r.2.2.2.2.2.2.2.2.2.2.2.2.2.2.2.2.2.2.2.2.2.2.2.2.2.2.2.1, r.2.2.2.2.2.2.2.2.2.2.2.2.2.2.2.2.2.2.2.2.2.2.2.2.2.2.2.2.1, r.2.2.2.2.2.2.2.2.2.2.2.2.2.2.2.2.2.2.2.2.2.2.2.2.2.2.2.2.2.1, r.2.2.2.2.2.2.2.2.2.2.2.2.2.2.2.2.2.2.2.2.2.2.2.2.2.2.2.2.2.2.1, r.2.2.2.2.2.2.2.2.2.2.2.2.2.2.2.2.2.2.2.2.2.2.2.2.2.2.2.2.2.2.2.1, r.2.2.2.2.2.2.2.2.2.2.2.2.2.2.2.2.2.2.2.2.2.2.2.2.2.2.2.2.2.2.2.2.1, r.2.2.2.2.2.2.2.2.2.2.2.2.2.2.2.2.2.2.2.2.2.2.2.2.2.2.2.2.2.2.2.2.2.1, r.2.2.2.2.2.2.2.2.2.2.2.2.2.2.2.2.2.2.2.2.2.2.2.2.2.2.2.2.2.2.2.2.2.2.1), (r.2.1, r.2.2.2.2.2.2.2.2.2.2.2.2.2.2.2.2.2.2.2.2.2.2.2.2.2.2.2.2.2.2.2.2.2.2.2.1, r.2.2.2.2.2.2.2.2.2.2.2.2.2.2.2.2.2.2.2.2.2.2.2.2.2.2.2.2.2.2.2.2.2.2.2.2.1, r.2.2.2.2.2.2.2.2.2.2.2.2.2.2.2.2.2.2.2.2.2.2.2.2.2.2.2.2.2.2.2.2.2.2.2.2.2.1, r.2.2.2.2.2.2.2.2.2.2.2.2.2.2.2.2.2.2.2.2.2.2.2.2.2.2.2.2.2.2.2.2.2.2.2.2.2.2.1, r.2.2.2.2.2.2.2.2.2.2.2.2.2.2.2.2.2.2.2.2.2.2.2.2.2.2.2.2.2.2.2.2.2.2.2.2.2.2.2.2.2.2.2.2.2.2), s.2.2.2.2.2.2.2.1, s.2.2.2.2.2.2.2.2.1, s.2.2.2.2.2.2.2.2.2) : RS) := by
  obtain ⟨p, h, hw⟩ := Option.bind_eq_some_iff.mp h
  unfold mEnd at h
  obtain ⟨s4, h4, h⟩ := Option.bind_eq_some_iff.mp h
  unfold mTail at h4
  obtain ⟨s5, e1, h4⟩ := Option.bind_eq_some_iff.mp h4
  unfold mMeasure at e1
  obtain ⟨r1, f1, e1⟩ := Option.map_eq_some_iff.mp e1
  subst e1
  unfold jn_Ref_comes_c0_296f5
  by_cases q1 : fd_mDesk_came u57.1 = 0
  · rw [if_pos q1] at h4
    have e2 := h4
    obtain ⟨r, g1, rfl⟩ := oth_316g6_0 _ _ _ e2
    by_cases q2 : u54 = 0
    · rw [if_pos q2] at h
      have hp := Option.some.inj h
      subst hp
      have h9 := Option.some.inj hw
      subst h9
      exact ⟨_, (bind_eq f1).trans ((if_pos q1).trans ((bind_eq g1).trans (if_pos q2))), rfl⟩
    · rw [if_neg q2] at h
      obtain ⟨z, e3, h⟩ := Option.bind_eq_some_iff.mp h
      have hp := Option.some.inj h
      subst hp
      unfold mIsSeq at e3
      rw [Option.map_id'] at e3
      by_cases q3 : z = 0
      · rw [if_pos (decide_eq_true q3)] at hw
        unfold mWork0 at hw
        obtain ⟨r3, f3, e9⟩ := Option.map_eq_some_iff.mp hw
        subst e9
        exact ⟨_, (bind_eq f1).trans ((if_pos q1).trans ((bind_eq g1).trans ((if_neg q2).trans ((bind_eq e3).trans ((if_pos q3).trans (bind_eq f3)))))), rfl⟩
      · rw [if_neg (show ¬ decide (z = 0) = true from fun hq => q3 (of_decide_eq_true hq))] at hw
        have h9 := Option.some.inj hw
        subst h9
        exact ⟨_, (bind_eq f1).trans ((if_pos q1).trans ((bind_eq g1).trans ((if_neg q2).trans ((bind_eq e3).trans (if_neg q3))))), rfl⟩
  · rw [if_neg q1] at h4
    obtain ⟨s6, e7, e2⟩ := Option.bind_eq_some_iff.mp h4
    unfold mPaint at e7
    obtain ⟨r7, f7, e7⟩ := Option.map_eq_some_iff.mp e7
    subst e7
    obtain ⟨r, g1, rfl⟩ := oth_316i8_0 _ _ _ e2
    by_cases q2 : u54 = 0
    · rw [if_pos q2] at h
      have hp := Option.some.inj h
      subst hp
      have h9 := Option.some.inj hw
      subst h9
      exact ⟨_, (bind_eq f1).trans ((if_neg q1).trans ((bind_eq f7).trans ((bind_eq g1).trans (if_pos q2)))), rfl⟩
    · rw [if_neg q2] at h
      obtain ⟨z, e3, h⟩ := Option.bind_eq_some_iff.mp h
      have hp := Option.some.inj h
      subst hp
      unfold mIsSeq at e3
      rw [Option.map_id'] at e3
      by_cases q3 : z = 0
      · rw [if_pos (decide_eq_true q3)] at hw
        unfold mWork0 at hw
        obtain ⟨r3, f3, e9⟩ := Option.map_eq_some_iff.mp hw
        subst e9
        exact ⟨_, (bind_eq f1).trans ((if_neg q1).trans ((bind_eq f7).trans ((bind_eq g1).trans ((if_neg q2).trans ((bind_eq e3).trans ((if_pos q3).trans (bind_eq f3))))))), rfl⟩
      · rw [if_neg (show ¬ decide (z = 0) = true from fun hq => q3 (of_decide_eq_true hq))] at hw
        have h9 := Option.some.inj hw
        subst h9
        exact ⟨_, (bind_eq f1).trans ((if_neg q1).trans ((bind_eq f7).trans ((bind_eq g1).trans ((if_neg q2).trans ((bind_eq e3).trans (if_neg q3)))))), rfl⟩
