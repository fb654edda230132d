def addT (N : Nat) (gd : Nat → Int32) (v1 u4 u7 u10 u13 u16 : Int32) (u : rs_FontShelf_removeGlyph) : Option rs_FontShelf_loadGlyph :=
  if dk_in (((fd_FontShelf_glyphCount u.1) * 9) + 0) 2304 then (dk_let (upd u.2.1 (((fd_FontShelf_glyphCount u.1) * 9) + 0).toNatClampNeg (fd_FontShelf_id u.1) : Nat → Int32) (fun f_26 => if dk_in (((fd_FontShelf_glyphCount u.1) * 9) + 1) 2304 then (dk_let (upd f_26 (((fd_FontShelf_glyphCount u.1) * 9) + 1).toNatClampNeg (fd_FontShelf_code u.1) : Nat → Int32) (fun f_28 => if dk_in (((fd_FontShelf_glyphCount u.1) * 9) + 2) 2304 then (dk_let (upd f_28 (((fd_FontShelf_glyphCount u.1) * 9) + 2).toNatClampNeg u4 : Nat → Int32) (fun f_30 => if dk_in (((fd_FontShelf_glyphCount u.1) * 9) + 3) 2304 then (dk_let (upd f_30 (((fd_FontShelf_glyphCount u.1) * 9) + 3).toNatClampNeg u7 : Nat → Int32) (fun f_32 => if dk_in (((fd_FontShelf_glyphCount u.1) * 9) + 4) 2304 then (dk_let (upd f_32 (((fd_FontShelf_glyphCount u.1) * 9) + 4).toNatClampNeg u10 : Nat → Int32) (fun f_34 => if dk_in (((fd_FontShelf_glyphCount u.1) * 9) + 5) 2304 then (dk_let (upd f_34 (((fd_FontShelf_glyphCount u.1) * 9) + 5).toNatClampNeg u13 : Nat → Int32) (fun f_36 => if dk_in (((fd_FontShelf_glyphCount u.1) * 9) + 6) 2304 then (dk_let (upd f_36 (((fd_FontShelf_glyphCount u.1) * 9) + 6).toNatClampNeg u16 : Nat → Int32) (fun f_38 => if dk_in (((fd_FontShelf_glyphCount u.1) * 9) + 7) 2304 then (dk_let (upd f_38 (((fd_FontShelf_glyphCount u.1) * 9) + 7).toNatClampNeg (fd_FontShelf_used u.1) : Nat → Int32) (fun f_40 => if dk_in (((fd_FontShelf_glyphCount u.1) * 9) + 8) 2304 then (dk_let (upd f_40 (((fd_FontShelf_glyphCount u.1) * 9) + 8).toNatClampNeg (u13 * ((u10 + 7) / 8)) : Nat → Int32) (fun f_42 => (ex_FontShelf_addDots N (fs_FontShelf_glyphCount u.1 ((fd_FontShelf_glyphCount u.1) + 1)) 4096 gd u.2.2 v1 (u13 * ((u10 + 7) / 8))).bind (fun u_43 => some (u_43.1, f_42, u_43.2)))) else none)) else none)) else none)) else none)) else none)) else none)) else none)) else none)) else none
/-- what a glyph's data say of its dots -/
def datD (gd : Nat → Int32) (m W Dp p q : Nat) : Bool := decide (p < W ∧ q < Dp) && (decide (10 + (q * ((W + 7) / 8) + p / 8) < m) && (u8 (gd (10 + (q * ((W + 7) / 8) + p / 8)))).testBit (7 - p % 8))
def put8 (gd : Nat → Int32) (m i : Nat) : Int32 := if 10 + i < m then gd (10 + i) else 0
theorem ad_loop {N m by_ u : Nat} {gd gs gdt : Nat → Int32} (hd : dtR m gd gs) (hu : u + by_ ≤ 16384) (hb : by_ ≤ 2048) : ∀ (w fu k : Nat) (o : ob_FontShelf) (g : Nat → Int32), by_ - k = w → w < fu → k ≤ by_ → fd_FontShelf_used o = nI (u + k) → (∀ i, g i = if u ≤ i ∧ i < u + k then put8 gd m (i - u) else gdt i) →
    ∃ g', lp_FontShelf_addDots_4 4096 gd (nI m) (nI by_) fu (nI (10 + k)) o g = some (fs_FontShelf_used o (nI (u + by_)), g') ∧ ∀ i, g' i = if u ≤ i ∧ i < u + by_ then put8 gd m (i - u) else gdt i := by
  have hm := hd.1
  have e10 : (10 : Int32) + nI by_ = nI (10 + by_) := nI_add 10 by_
  intro w
  induction w with
  | zero =>
    intro fu k o g hw hf hk ho hg
    obtain ⟨fu, rfl⟩ : ∃ z, fu = z + 1 := ⟨fu - 1, by omega⟩
    have : k = by_ := by omega
    subst this
    refine ⟨g, ?_, hg⟩
    rw [lp_FontShelf_addDots_4, e10, if_pos (nI_le (Nat.le_refl _) (by omega)), ← ho]
  | succ w ih =>
    intro fu k o g hw hf hk ho hg
    obtain ⟨fu, rfl⟩ : ∃ z, fu = z + 1 := ⟨fu - 1, by omega⟩
    have hin : dk_in (nI (u + k)) 16384 := dk_in_nI (by omega) (by omega)
    have hcl : (nI (u + k)).toNatClampNeg = u + k := nI_clamp (by omega)
    have nxt : ∀ x : Int32, x = put8 gd m k → ∃ g', lp_FontShelf_addDots_4 4096 gd (nI m) (nI by_) fu (nI (10 + k) + 1) (fs_FontShelf_used o (nI (u + k) + 1)) (upd g (u + k) x) = some (fs_FontShelf_used o (nI (u + by_)), g') ∧ ∀ i, g' i = if u ≤ i ∧ i < u + by_ then put8 gd m (i - u) else gdt i := by
      intro x hx
      rw [nI_1, nI_1]
      obtain ⟨g', r1, r2⟩ := ih fu (k + 1) (fs_FontShelf_used o (nI (u + k + 1))) (upd g (u + k) x) (by omega) (by omega) (by omega) rfl (fun i => by
        by_cases q : i = u + k
        · subst q; rw [pk_us, if_pos (by omega), hx]; congr 1; omega
        · rw [pk_un q, hg]
          by_cases q2 : u ≤ i ∧ i < u + k
          · rw [if_pos q2, if_pos (by omega)]
          · rw [if_neg q2, if_neg (by omega)])
      exact ⟨g', r1, r2⟩
    rw [lp_FontShelf_addDots_4, e10, if_neg (nI_ge (by omega) (by omega)), ho, if_neg (show ¬ (16384 : Int32) ≤ nI (u + k) from nI_ge (b := 16384) (by omega) (by omega))]
    by_cases q : m ≤ 10 + k
    · rw [if_pos (nI_le q (by omega)), if_pos hin, hcl]
      exact nxt 0 (by unfold put8; rw [if_neg (by omega)])
    · have h8 := (hd.2 (10 + k) (by omega)).1
      rw [if_neg (nI_ge (by omega) (by omega)), if_neg (nI_ge (show 10 + k < 4096 by omega) (by omega)), if_pos (dk_in_nI (by omega) (by omega)), if_pos hin, hcl, nI_clamp (by omega), is8_vp h8]
      exact nxt _ (by unfold put8; rw [if_pos (by omega)])
theorem add_c {N n u m st W Dp : Nat} {lf tp : Int} {o : ob_FontShelf} {gg gdt gd gs : Nat → Int32} (hN : 30000 < N) (hd : dtR m gd gs) (hg : gC n u gg gdt) (hn : n < 256) (o2 : fd_FontShelf_glyphCount o = nI n) (o3 : fd_FontShelf_used o = nI u) (hgb : gyB lf tp W Dp st) (hu : u + Dp * ((W + 7) / 8) ≤ 16384) :
    ∃ gg' gdt', addT N gd (nI m) (iI lf) (iI tp) (nI W) (nI Dp) (nI st) (o, gg, gdt) = some (fs_FontShelf_used (fs_FontShelf_glyphCount o (nI (n + 1))) (nI (u + Dp * ((W + 7) / 8))), gg', gdt') ∧ gC (n + 1) (u + Dp * ((W + 7) / 8)) gg' gdt' ∧ (∀ i, i < n → recC gg' gdt' i = recC gg gdt i) ∧ recC gg' gdt' n = (fd_FontShelf_id o, fd_FontShelf_code o, iI lf, iI tp, nI W, nI Dp, nI st, datD gd m W Dp) := by
  obtain ⟨b1, b2, b3, b4, b5, b6, b7⟩ := hgb
  have hb : Dp * ((W + 7) / 8) ≤ 128 * 16 := Nat.mul_le_mul b6 (by omega)
  obtain ⟨by_, hby⟩ : ∃ by_, by_ = Dp * ((W + 7) / 8) := ⟨_, rfl⟩
  rw [← hby] at hu hb ⊢
  obtain ⟨hw, hsum⟩ := hg
  have hw' := hw
  obtain ⟨w1, w2, w3, w4, w5⟩ := hw'
  have eb : nI Dp * ((nI W + 7) / 8) = nI by_ := by
    have : (nI W + 7) / 8 = nI ((W + 7) / 8) := by rw [nI_addL]; exact nI_div (b := 8) (by omega) (by omega)
    rw [this, nI_mul, hby]
  have e9 : nI n * 9 = nI (9 * n) := by have h9 := nI_mul n 9; rw [Nat.mul_comm] at h9; exact h9
  have ej : ∀ j, j < 9 → dk_in (nI (9 * n) + nI j) 2304 ∧ (nI (9 * n) + nI j).toNatClampNeg = 9 * n + j := fun j hj => by rw [nI_add]; exact ⟨dk_in_nI (by omega) (by omega), nI_clamp (by omega)⟩
  have i0 : dk_in (nI (9 * n) + 0) 2304 := (ej 0 (by omega)).1
  have i1 : dk_in (nI (9 * n) + 1) 2304 := (ej 1 (by omega)).1
  have i2 : dk_in (nI (9 * n) + 2) 2304 := (ej 2 (by omega)).1
  have i3 : dk_in (nI (9 * n) + 3) 2304 := (ej 3 (by omega)).1
  have i4 : dk_in (nI (9 * n) + 4) 2304 := (ej 4 (by omega)).1
  have i5 : dk_in (nI (9 * n) + 5) 2304 := (ej 5 (by omega)).1
  have i6 : dk_in (nI (9 * n) + 6) 2304 := (ej 6 (by omega)).1
  have i7 : dk_in (nI (9 * n) + 7) 2304 := (ej 7 (by omega)).1
  have i8 : dk_in (nI (9 * n) + 8) 2304 := (ej 8 (by omega)).1
  have v0 : (nI (9 * n) + 0).toNatClampNeg = 9 * n := (ej 0 (by omega)).2
  have v1 : (nI (9 * n) + 1).toNatClampNeg = 9 * n + 1 := (ej 1 (by omega)).2
  have v2 : (nI (9 * n) + 2).toNatClampNeg = 9 * n + 2 := (ej 2 (by omega)).2
  have v3 : (nI (9 * n) + 3).toNatClampNeg = 9 * n + 3 := (ej 3 (by omega)).2
  have v4 : (nI (9 * n) + 4).toNatClampNeg = 9 * n + 4 := (ej 4 (by omega)).2
  have v5 : (nI (9 * n) + 5).toNatClampNeg = 9 * n + 5 := (ej 5 (by omega)).2
  have v6 : (nI (9 * n) + 6).toNatClampNeg = 9 * n + 6 := (ej 6 (by omega)).2
  have v7 : (nI (9 * n) + 7).toNatClampNeg = 9 * n + 7 := (ej 7 (by omega)).2
  have v8 : (nI (9 * n) + 8).toNatClampNeg = 9 * n + 8 := (ej 8 (by omega)).2
  obtain ⟨gg', hgg⟩ : ∃ gg', gg' = upd (upd (upd (upd (upd (upd (upd (upd (upd gg (9 * n) (fd_FontShelf_id o)) (9 * n + 1) (fd_FontShelf_code o)) (9 * n + 2) (iI lf)) (9 * n + 3) (iI tp)) (9 * n + 4) (nI W)) (9 * n + 5) (nI Dp)) (9 * n + 6) (nI st)) (9 * n + 7) (nI u)) (9 * n + 8) (nI by_) := ⟨_, rfl⟩
  obtain ⟨gdt', l1, l2⟩ := ad_loop (N := N) (gdt := gdt) hd hu (by omega) by_ N 0 (fs_FontShelf_glyphCount o (nI (n + 1))) gdt rfl (by omega) (by omega) o3 (fun i => by rw [if_neg (by omega)])
  have l1' : lp_FontShelf_addDots_4 4096 gd (nI m) (nI by_) N 10 (fs_FontShelf_glyphCount o (nI (n + 1))) gdt = some (fs_FontShelf_used (fs_FontShelf_glyphCount o (nI (n + 1))) (nI (u + by_)), gdt') := l1
  have low : ∀ i, i < 9 * n → gg' i = gg i := fun i hi => by
    rw [hgg, pk_un (by omega), pk_un (by omega), pk_un (by omega), pk_un (by omega), pk_un (by omega), pk_un (by omega), pk_un (by omega), pk_un (by omega), pk_un (by omega)]
  have h0 : gg' (9 * n) = fd_FontShelf_id o := by rw [hgg]; simp [upd]
  have h1 : gg' (9 * n + 1) = fd_FontShelf_code o := by rw [hgg]; simp [upd]
  have h2 : gg' (9 * n + 2) = iI lf := by rw [hgg]; simp [upd]
  have h3 : gg' (9 * n + 3) = iI tp := by rw [hgg]; simp [upd]
  have h4 : gg' (9 * n + 4) = nI W := by rw [hgg]; simp [upd]
  have h5 : gg' (9 * n + 5) = nI Dp := by rw [hgg]; simp [upd]
  have h6 : gg' (9 * n + 6) = nI st := by rw [hgg]; simp [upd]
  have h7 : gg' (9 * n + 7) = nI u := by rw [hgg]; simp [upd]
  have h8 : gg' (9 * n + 8) = nI by_ := by rw [hgg]; simp [upd]
  have aN : aC gg' n = u := by unfold aC; rw [h7, nI_clamp (by omega)]
  have bN : bC gg' n = by_ := by unfold bC; rw [h8, nI_clamp (by omega)]
  have aL : ∀ c, c < n → aC gg' c = aC gg c := fun c hc => by unfold aC; rw [low _ (by omega)]
  have bL : ∀ c, c < n → bC gg' c = bC gg c := fun c hc => by unfold bC; rw [low _ (by omega)]
  have recL : ∀ i, i < n → recC gg' gdt' i = recC gg gdt i := by
    intro c hc
    obtain ⟨lf', tp', W', Dp', st', ⟨y2, y3, y4, y5, y6, y7, y8, y9⟩, ⟨z1, z2, z3, z4, z5, z6, z7⟩, hgu⟩ := w4 c hc
    unfold recC
    rw [low (9 * c) (by omega), low (9 * c + 1) (by omega), low (9 * c + 2) (by omega), low (9 * c + 3) (by omega), low (9 * c + 4) (by omega), low (9 * c + 5) (by omega), low (9 * c + 6) (by omega), low (9 * c + 7) (by omega)]
    congr 7
    funext p q
    rw [y4, y5, nI_clamp (by omega), nI_clamp (by omega)]
    by_cases hpq : p < W' ∧ q < Dp'
    · rw [decide_eq_true hpq, Bool.true_and, Bool.true_and]
      have hr : q * ((W' + 7) / 8) + p / 8 < Dp' * ((W' + 7) / 8) := by
        have : (q + 1) * ((W' + 7) / 8) ≤ Dp' * ((W' + 7) / 8) := Nat.mul_le_mul_right _ hpq.2
        rw [Nat.succ_mul] at this; omega
      have ea : (gg (9 * c + 7)).toNatClampNeg = aC gg c := rfl
      unfold bitM
      rw [ea, l2, if_neg (by omega)]
    · rw [decide_eq_false hpq, Bool.false_and, Bool.false_and]
  have recN : recC gg' gdt' n = (fd_FontShelf_id o, fd_FontShelf_code o, iI lf, iI tp, nI W, nI Dp, nI st, datD gd m W Dp) := by
    unfold recC
    rw [h0, h1, h2, h3, h4, h5, h6, h7]
    congr 7
    funext p q
    rw [nI_clamp (by omega), nI_clamp (by omega), nI_clamp (by omega)]
    unfold datD
    by_cases hpq : p < W ∧ q < Dp
    · rw [decide_eq_true hpq, Bool.true_and, Bool.true_and]
      have hr : q * ((W + 7) / 8) + p / 8 < Dp * ((W + 7) / 8) := by
        have : (q + 1) * ((W + 7) / 8) ≤ Dp * ((W + 7) / 8) := Nat.mul_le_mul_right _ hpq.2
        rw [Nat.succ_mul] at this; omega
      unfold bitM
      rw [l2, if_pos (by omega)]
      have ei : u + q * ((W + 7) / 8) + p / 8 - u = q * ((W + 7) / 8) + p / 8 := by omega
      rw [ei]
      unfold put8
      by_cases qm : 10 + (q * ((W + 7) / 8) + p / 8) < m
      · rw [if_pos qm, decide_eq_true qm, Bool.true_and]
      · rw [if_neg qm, decide_eq_false qm, Bool.false_and]
        show (0 : Nat).testBit _ = false
        simp
    · rw [decide_eq_false hpq, Bool.false_and, Bool.false_and]
  refine ⟨gg', gdt', ?_, ⟨⟨by omega, hu, fun i hi => ?_, ?_, ?_⟩, ?_⟩, recL, recN⟩
  · unfold addT
    simp only []
    rw [o2, e9, eb]
    simp only [if_pos i0, if_pos i1, if_pos i2, if_pos i3, if_pos i4, if_pos i5, if_pos i6, if_pos i7, if_pos i8, v0, v1, v2, v3, v4, v5, v6, v7, v8, dk_let]
    rw [o3, nI_1, ← hgg]
    unfold ex_FontShelf_addDots
    rw [l1']; rfl
  · rw [l2]
    split
    · unfold put8; split
      · exact (hd.2 _ (by omega)).1
      · exact is8_0
    · exact w3 i hi
  · intro c hc
    by_cases q : c = n
    · subst q
      refine ⟨lf, tp, W, Dp, st, ⟨h2, h3, h4, h5, h6, by rw [aN]; exact h7, by rw [h8, hby], by rw [aN, ← hby]; exact hu⟩, ⟨b1, b2, b3, b4, b5, b6, b7⟩, by rw [aN, ← hby]; exact Nat.le_refl _⟩
    · obtain ⟨lf', tp', W', Dp', st', ⟨y2, y3, y4, y5, y6, y7, y8, y9⟩, hgb', hgu⟩ := w4 c (by omega)
      refine ⟨lf', tp', W', Dp', st', ⟨by rw [low _ (by omega)]; exact y2, by rw [low _ (by omega)]; exact y3, by rw [low _ (by omega)]; exact y4, by rw [low _ (by omega)]; exact y5, by rw [low _ (by omega)]; exact y6, by rw [low _ (by omega), aL c (by omega)]; exact y7, by rw [low _ (by omega)]; exact y8, by rw [aL c (by omega)]; exact y9⟩, hgb', by rw [aL c (by omega)]; omega⟩
  · intro c c' hc hc' hne
    have hA : ∀ x, x < n → aC gg x + bC gg x ≤ u := fun x hx => (gwC_at hw hx).2.2.1
    by_cases q : c = n
    · subst q
      rw [aN, bN, aL c' (by omega), bL c' (by omega)]
      right; exact hA c' (by omega)
    · rw [aL c (by omega), bL c (by omega)]
      by_cases q2 : c' = n
      · subst q2; rw [aN]; left; exact hA c (by omega)
      · rw [aL c' (by omega), bL c' (by omega)]; exact w5 c c' (by omega) (by omega) hne
  · rw [lst_succ, lst_congr n recL, recN]
    unfold bySum at *
    rw [List.map_append, List.sum_append, ← hsum]
    show u + by_ = u + (byR _ + 0)
    unfold byR dpR wdR
    show u + by_ = u + ((nI Dp).toNatClampNeg * (((nI W).toNatClampNeg + 7) / 8) + 0)
    rw [nI_clamp (by omega), nI_clamp (by omega), ← hby]; rfl
theorem u8_bit2 (x y : Int32) {b : Nat} (hb : b < 8) : (u8 (x &&& y)).testBit b = ((u8 x).testBit b && (u8 y).testBit b) := by
  unfold u8
  rw [Int32.toBitVec_and, BitVec.toNat_and]
  show ((_ &&& _) % 2 ^ 8).testBit b = ((_ % 2 ^ 8).testBit b && (_ % 2 ^ 8).testBit b)
  rw [Nat.testBit_mod_two_pow, Nat.testBit_mod_two_pow, Nat.testBit_mod_two_pow, Nat.testBit_and, decide_eq_true hb]; simp
theorem mask_tab : ∀ t, t < 8 → ∀ b, b < 8 → (u8 (255 - ((255 : Int32) >>> (nI t &&& 31)))).testBit b = decide (7 - b < t) := by decide +kernel
theorem m255_tab : ∀ b, b < 8 → (u8 (255 : Int32)).testBit b = true := by decide +kernel
/-- a byte of a glyph as the reference stores it -/
theorem gm_byteOf {N m W i c : Nat} {o : ob_mShelf} {cm gB gd gs : Nat → Int32} (hd : dtR m gd gs) (hW : cm 2 = nI W) (hW1 : 1 ≤ W) (hW2 : W ≤ 128) (hi : i < 2048) (hc : fd_mShelf_came o = nI c) (hc2 : c ≤ 2048) (hci : i < c ↔ 10 + i < m) (hB : i < c → gB i = gd (10 + i)) :
    ∃ sv, ex_mShelf_byteOf N o cm gB (nI i) = some sv ∧ ∀ b, b < 8 → 8 * (i % ((W + 7) / 8)) + (7 - b) < W → (u8 sv).testBit b = (decide (10 + i < m) && (u8 (gd (10 + i))).testBit b) := by
  have hrb : 1 ≤ (W + 7) / 8 := by omega
  have e7 : (nI W + 7) / 8 = nI ((W + 7) / 8) := by rw [nI_addL]; exact nI_div (b := 8) (by omega) (by omega)
  have em : nI i - nI i / nI ((W + 7) / 8) * nI ((W + 7) / 8) = nI (i % ((W + 7) / 8)) := nI_mod (by omega) (by omega)
  have hml : i % ((W + 7) / 8) < (W + 7) / 8 := Nat.mod_lt _ (by omega)
  have n0 : ¬ nI ((W + 7) / 8) = 0 := nI_ne0 (by omega) (by omega)
  have ey : nI W - 8 * nI (i % ((W + 7) / 8)) = nI (W - 8 * (i % ((W + 7) / 8))) := by rw [nI_Lmul, nI_sub (by show 8 * (i % ((W + 7) / 8)) ≤ W; omega)]
  unfold ex_mShelf_byteOf
  rw [hW, e7, if_neg n0, if_pos n0]
  simp only [dk_let]
  rw [em, ey, hc]
  by_cases q : c ≤ i
  · have hz : ∀ (X Y : Option rs_mShelf_byteOf), (if nI (W - 8 * (i % ((W + 7) / 8))) < 8 then (if nI c ≤ nI i then some 0 else X) else (if nI c ≤ nI i then some 0 else Y)) = some 0 := fun X Y => by
      rw [if_pos (nI_le q (by omega)), if_pos (nI_le q (by omega)), ite_self]
    refine ⟨0, hz _ _, fun b hb _ => ?_⟩
    rw [decide_eq_false (by omega), Bool.false_and]
    show (0 : Nat).testBit b = false; simp
  · have hin : dk_in (nI i) 2048 := dk_in_nI hi (by omega)
    have hcl : (nI i).toNatClampNeg = i := nI_clamp (by omega)
    rw [if_neg (nI_ge (by omega) (by omega)), if_neg (nI_ge (by omega) (by omega)), if_pos hin, if_pos hin, hcl, hB (by omega)]
    by_cases q8 : W - 8 * (i % ((W + 7) / 8)) < 8
    · rw [if_pos (show nI (W - 8 * (i % ((W + 7) / 8))) < 8 from nI_lt (b := 8) q8 (by omega))]
      refine ⟨_, rfl, fun b hb hbw => ?_⟩
      rw [u8_bit2 _ _ hb, mask_tab _ q8 b hb, decide_eq_true (show 7 - b < W - 8 * (i % ((W + 7) / 8)) by omega), decide_eq_true (show 10 + i < m by omega), Bool.and_true, Bool.true_and]
    · rw [if_neg (show ¬ nI (W - 8 * (i % ((W + 7) / 8))) < 8 from nI_nlt (b := 8) (by omega) (by omega))]
      refine ⟨_, rfl, fun b hb hbw => ?_⟩
      rw [u8_bit2 _ _ hb, m255_tab b hb, decide_eq_true (show 10 + i < m by omega), Bool.and_true, Bool.true_and]
theorem gm_lstore {N m W u need c : Nat} {o : ob_mShelf} {cm gB gd gs st0 : Nat → Int32} (hd : dtR m gd gs) (hW : cm 2 = nI W) (hW1 : 0 < need → 1 ≤ W) (hW2 : W ≤ 128) (hn : fd_mShelf_need o = nI need) (hn2 : need ≤ 2048) (hu : fd_mShelf_used o = nI u) (hu2 : u + need ≤ 16384) (hc : fd_mShelf_came o = nI c) (hc2 : c ≤ 2048) (hci : ∀ i, i < need → (i < c ↔ 10 + i < m)) (hB : ∀ i, i < c → gB i = gd (10 + i)) (h8 : by8 20000 st0) :
    ∀ (w fu k : Nat) (g : Nat → Int32), need - k = w → w < fu → k ≤ need → by8 20000 g → (∀ i, i < u → g i = st0 i) → (∀ i, i < k → ∀ b, b < 8 → 8 * (i % ((W + 7) / 8)) + (7 - b) < W → (u8 (g (u + i))).testBit b = (decide (10 + i < m) && (u8 (gd (10 + i))).testBit b)) →
      ∃ g', lp_mShelf_load_193d3 N cm gB o fu (nI k) g = some g' ∧ by8 20000 g' ∧ (∀ i, i < u → g' i = st0 i) ∧ (∀ i, i < need → ∀ b, b < 8 → 8 * (i % ((W + 7) / 8)) + (7 - b) < W → (u8 (g' (u + i))).testBit b = (decide (10 + i < m) && (u8 (gd (10 + i))).testBit b)) := by
  intro w
  induction w with
  | zero =>
    intro fu k g hw hf hk g8 gl gk
    obtain ⟨fu, rfl⟩ : ∃ z, fu = z + 1 := ⟨fu - 1, by omega⟩
    have : k = need := by omega
    subst this
    exact ⟨g, by rw [lp_mShelf_load_193d3, hn, if_pos (nI_le (Nat.le_refl _) (by omega))], g8, gl, gk⟩
  | succ w ih =>
    intro fu k g hw hf hk g8 gl gk
    obtain ⟨fu, rfl⟩ : ∃ z, fu = z + 1 := ⟨fu - 1, by omega⟩
    obtain ⟨sv, e1, e2⟩ := gm_byteOf (N := N) (i := k) (o := o) (gB := gB) hd hW (hW1 (by omega)) hW2 (by omega) hc hc2 (hci k (by omega)) (hB k)
    rw [lp_mShelf_load_193d3, hn, if_neg (nI_ge (by omega) (by omega)), e1]
    simp only [Option.bind_some]
    rw [hu, nI_add, if_pos (dk_in_nI (by omega) (by omega)), nI_clamp (by omega), dk_let, nI_1]
    refine ih fu (k + 1) _ (by omega) (by omega) (by omega) (by8_upd g8 _ (is8_to sv)) (fun i hi => by rw [pk_un (by omega)]; exact gl i hi) (fun i hi b hb hbw => ?_)
    by_cases q : i = k
    · subst q; rw [pk_us, u8_to]; exact e2 b hb hbw
    · rw [pk_un (by omega)]; exact gk i (by omega) b hb hbw
theorem gm_lnums {cm : Nat → Int32} {o : ob_mShelf} {n : Nat} (ho : fd_mShelf_glyphs o = nI n) (hn : n ≤ 256) (f : Nat → Int32) : ∀ (w fu k : Nat) (g : Nat → Int32), 5 - k = w → w < fu → k ≤ 5 → (∀ i, g i = if 7 * n + 2 ≤ i ∧ i < 7 * n + 2 + k then cm (i - (7 * n + 2)) else f i) →
    ∃ g', lp_mShelf_load_159c2 cm o fu (nI k) g = some g' ∧ ∀ i, g' i = if 7 * n + 2 ≤ i ∧ i < 7 * n + 7 then cm (i - (7 * n + 2)) else f i := by
  intro w
  induction w with
  | zero =>
    intro fu k g hw hf hk h
    obtain ⟨fu, rfl⟩ : ∃ z, fu = z + 1 := ⟨fu - 1, by omega⟩
    have : k = 5 := by omega
    subst this
    exact ⟨g, by rw [lp_mShelf_load_159c2, if_pos (show (5 : Int32) ≤ nI 5 by decide)], h⟩
  | succ w ih =>
    intro fu k g hw hf hk h
    obtain ⟨fu, rfl⟩ : ∃ z, fu = z + 1 := ⟨fu - 1, by omega⟩
    have e2 : 7 * nI n + 2 + nI k = nI (7 * n + 2 + k) := by rw [nI_Lmul, nI_addL, nI_add]
    rw [lp_mShelf_load_159c2, if_neg (show ¬ (5 : Int32) ≤ nI k from nI_ge (b := 5) (by omega) (by omega)), ho, e2, if_pos (dk_in_nI (by omega) (by omega)), if_pos (dk_in_nI (by omega) (by omega)), nI_clamp (by omega), nI_clamp (by omega), dk_let, nI_1]
    refine ih fu (k + 1) _ (by omega) (by omega) (by omega) (fun i => ?_)
    by_cases q : i = 7 * n + 2 + k
    · subst q; rw [pk_us, if_pos (by omega)]; congr 1; omega
    · rw [pk_un q, h]
      by_cases q2 : 7 * n + 2 ≤ i ∧ i < 7 * n + 2 + k
      · rw [if_pos q2, if_pos (by omega)]
      · rw [if_neg q2, if_neg (by omega)]
theorem gm_count {N n : Nat} {o : ob_mShelf} {gm : Nat → Int32} {v : Int32} (hN : 1000 < N) (ho : fd_mShelf_glyphs o = nI n) (hn : n ≤ 256) : ∃ x, ex_mShelf_glyphsOf N o gm v = some x := by
  have lp : ∀ (m fu k : Nat) (a : Int32), n - k = m → m < fu → k ≤ n → ∃ x, lp_mShelf_glyphsOf_4 o gm v fu (nI k) a = some x := by
    intro m
    induction m with
    | zero =>
      intro fu k a hm hf hk
      obtain ⟨fu, rfl⟩ : ∃ z, fu = z + 1 := ⟨fu - 1, by omega⟩
      exact ⟨a, by rw [lp_mShelf_glyphsOf_4, ho, if_pos (nI_le (show n ≤ k by omega) (by omega))]⟩
    | succ m ih =>
      intro fu k a hm hf hk
      obtain ⟨fu, rfl⟩ : ∃ z, fu = z + 1 := ⟨fu - 1, by omega⟩
      rw [lp_mShelf_glyphsOf_4, ho, if_neg (nI_ge (show k < n by omega) (by omega)), nI_Lmul, if_pos (dk_in_nI (by omega) (by omega)), nI_1]
      split
      · exact ih fu (k + 1) _ (by omega) (by omega) (by omega)
      · exact ih fu (k + 1) _ (by omega) (by omega) (by omega)
  obtain ⟨x, hx⟩ := lp n N 0 0 rfl (by omega) (by omega)
  have hx' : lp_mShelf_glyphsOf_4 o gm v N 0 0 = some x := hx
  exact ⟨x, by unfold ex_mShelf_glyphsOf; rw [hx']; rfl⟩
theorem stM_congr {gm gm' : Nat → Int32} : ∀ n, (∀ i, i < 7 * n → gm' i = gm i) → stM gm' n = stM gm n := by
  intro n
  induction n with
  | zero => intro _; rfl
  | succ n ih =>
    intro h
    show stM gm' n + byM gm' n = stM gm n + byM gm n
    rw [ih (fun i hi => h i (by omega))]
    unfold byM
    rw [h _ (by omega), h _ (by omega)]
theorem add_m {N n u m st W Dp c : Nat} {lf tp : Int} {o : ob_mShelf} {gm gst cm gB gd gs : Nat → Int32} (hN : 30000 < N) (hd : dtR m gd gs) (hg : gwM n u gm gst) (hn : n < 256) (o2 : fd_mShelf_glyphs o = nI n) (o3 : fd_mShelf_used o = nI u) (o4 : fd_mShelf_need o = nI (Dp * ((W + 7) / 8))) (o5 : fd_mShelf_came o = nI c) (hc2 : c ≤ 2048) (hci : ∀ i, i < Dp * ((W + 7) / 8) → (i < c ↔ 10 + i < m)) (hB : ∀ i, i < c → gB i = gd (10 + i)) (c0 : cm 0 = iI lf) (c1 : cm 1 = iI tp) (c2 : cm 2 = nI W) (c3 : cm 3 = nI Dp) (c4 : cm 4 = nI st) (hgb : gyB lf tp W Dp st) (hu : u + Dp * ((W + 7) / 8) ≤ 16384) :
    ∃ gm' gst' x, jn_mShelf_load_123 N cm gB gst o gm = some (fs_mShelf_used (fs_mShelf_glyphs o (nI (n + 1))) (nI (u + Dp * ((W + 7) / 8))), gm', gst', x) ∧ gwM (n + 1) (u + Dp * ((W + 7) / 8)) gm' gst' ∧ (∀ i, i < n → recM gm' gst' i = recM gm gst i) ∧ recM gm' gst' n = (fd_mShelf_id o, fd_mShelf_code o, iI lf, iI tp, nI W, nI Dp, nI st, datD gd m W Dp) := by
  have hgb' := hgb
  obtain ⟨b1, b2, b3, b4, b5, b6, b7⟩ := hgb'
  have hb : Dp * ((W + 7) / 8) ≤ 128 * 16 := Nat.mul_le_mul b6 (by omega)
  obtain ⟨by_, hby⟩ : ∃ by_, by_ = Dp * ((W + 7) / 8) := ⟨_, rfl⟩
  rw [← hby] at hu hb hci o4 ⊢
  have hg' := hg
  obtain ⟨h1, h2, h3, h4, h5⟩ := hg'
  have hWp : 0 < by_ → 1 ≤ W := by
    intro hp
    rcases Nat.eq_zero_or_pos W with z | z
    · exfalso; rw [z] at hby; simp at hby; omega
    · exact z
  obtain ⟨f0, hf0⟩ : ∃ f0, f0 = upd (upd gm (7 * n) (fd_mShelf_id o)) (7 * n + 1) (fd_mShelf_code o) := ⟨_, rfl⟩
  obtain ⟨gm', l1, l2⟩ := gm_lnums (cm := cm) (o := o) (n := n) o2 (by omega) f0 5 N 0 f0 rfl (by omega) (by omega) (fun i => by rw [if_neg (by omega)])
  have l1' : lp_mShelf_load_159c2 cm o N 0 f0 = some gm' := l1
  obtain ⟨gst', s1, s2, s3, s4⟩ := gm_lstore (N := N) (u := u) (need := by_) (c := c) (o := o) (gB := gB) (st0 := gst) hd c2 hWp b5 o4 (by omega) o3 hu o5 hc2 hci hB h4 by_ N 0 gst rfl (by omega) (by omega) h4 (fun i _ => rfl) (fun i hi => by omega)
  have s1' : lp_mShelf_load_193d3 N cm gB o N 0 gst = some gst' := s1
  obtain ⟨x, hx⟩ := gm_count (N := N) (n := n + 1) (o := fs_mShelf_used (fs_mShelf_glyphs o (nI (n + 1))) (nI (u + by_))) (gm := gm') (v := fd_mShelf_id o) (by omega) rfl (by omega)
  have low : ∀ i, i < 7 * n → gm' i = gm i := fun i hi => by
    rw [l2, if_neg (by omega), hf0, pk_un (by omega), pk_un (by omega)]
  have g0 : gm' (7 * n) = fd_mShelf_id o := by rw [l2, if_neg (by omega), hf0]; simp [upd]
  have g1 : gm' (7 * n + 1) = fd_mShelf_code o := by rw [l2, if_neg (by omega), hf0]; simp [upd]
  have gk : ∀ k, k < 5 → gm' (7 * n + 2 + k) = cm k := fun k hk => by rw [l2, if_pos (by omega)]; congr 1; omega
  have g2 : gm' (7 * n + 2) = iI lf := (gk 0 (by omega)).trans c0
  have g3 : gm' (7 * n + 3) = iI tp := (gk 1 (by omega)).trans c1
  have g4 : gm' (7 * n + 4) = nI W := (gk 2 (by omega)).trans c2
  have g5 : gm' (7 * n + 5) = nI Dp := (gk 3 (by omega)).trans c3
  have g6 : gm' (7 * n + 6) = nI st := (gk 4 (by omega)).trans c4
  have bn : byM gm' n = by_ := by unfold byM; rw [g4, g5, nI_clamp (by omega), nI_clamp (by omega), hby]
  have sn : stM gm' n = u := by rw [stM_congr n low, h2]
  refine ⟨gm', gst', x, ?_, ⟨by omega, ?_, hu, s2, ?_⟩, ?_, ?_⟩
  · unfold jn_mShelf_load_123
    have i0 : dk_in (nI (7 * n)) 1799 := dk_in_nI (by omega) (by omega)
    have e1 : nI (7 * n) + 1 = nI (7 * n + 1) := nI_addL _ 1
    have i1 : dk_in (nI (7 * n + 1)) 1799 := dk_in_nI (by omega) (by omega)
    have k0 : (nI (7 * n)).toNatClampNeg = 7 * n := nI_clamp (by omega)
    have k1 : (nI (7 * n + 1)).toNatClampNeg = 7 * n + 1 := nI_clamp (by omega)
    rw [o2, nI_Lmul, e1, if_pos i0]
    simp only [dk_let]
    rw [if_pos i1, k0, k1, ← hf0, l1']
    simp only [Option.bind_some]
    rw [s1']
    simp only [Option.bind_some]
    rw [o3, o4, nI_1, nI_add, hx]; rfl
  · show u + by_ = stM gm' n + byM gm' n
    rw [bn, sn]
  · intro e he
    by_cases q : e = n
    · subst q; exact ⟨lf, tp, W, Dp, st, ⟨g2, g3, g4, g5, g6⟩, hgb⟩
    · obtain ⟨lf', tp', W', Dp', st', ⟨y2, y3, y4, y5, y6⟩, hb'⟩ := h5 e (by omega)
      exact ⟨lf', tp', W', Dp', st', ⟨by rw [low _ (by omega)]; exact y2, by rw [low _ (by omega)]; exact y3, by rw [low _ (by omega)]; exact y4, by rw [low _ (by omega)]; exact y5, by rw [low _ (by omega)]; exact y6⟩, hb'⟩
  · intro e he
    obtain ⟨lf', tp', W', Dp', st', ⟨y2, y3, y4, y5, y6⟩, z1, z2, z3, z4, z5, z6, z7⟩ := h5 e he
    have eb : byM gm e = Dp' * ((W' + 7) / 8) := by unfold byM; rw [y4, y5, nI_clamp (by omega), nI_clamp (by omega)]
    have hst : stM gm e + byM gm e ≤ u := by rw [h2]; exact stM_mono gm (show e + 1 ≤ n by omega)
    unfold recM
    rw [low (7 * e) (by omega), low (7 * e + 1) (by omega), low (7 * e + 2) (by omega), low (7 * e + 3) (by omega), low (7 * e + 4) (by omega), low (7 * e + 5) (by omega), low (7 * e + 6) (by omega), stM_congr e (fun i hi => low i (by omega))]
    congr 7
    funext p q
    rw [y4, y5, nI_clamp (by omega), nI_clamp (by omega)]
    by_cases hpq : p < W' ∧ q < Dp'
    · rw [decide_eq_true hpq, Bool.true_and, Bool.true_and]
      have hr : q * ((W' + 7) / 8) + p / 8 < Dp' * ((W' + 7) / 8) := by
        have : (q + 1) * ((W' + 7) / 8) ≤ Dp' * ((W' + 7) / 8) := Nat.mul_le_mul_right _ hpq.2
        rw [Nat.succ_mul] at this; omega
      unfold bitM
      rw [s3 _ (by omega)]
    · rw [decide_eq_false hpq, Bool.false_and, Bool.false_and]
  · unfold recM
    rw [g0, g1, g2, g3, g4, g5, g6, sn]
    congr 7
    funext p q
    rw [nI_clamp (by omega), nI_clamp (by omega)]
    unfold datD
    by_cases hpq : p < W ∧ q < Dp
    · rw [decide_eq_true hpq, Bool.true_and, Bool.true_and]
      have hr : q * ((W + 7) / 8) + p / 8 < Dp * ((W + 7) / 8) := by
        have : (q + 1) * ((W + 7) / 8) ≤ Dp * ((W + 7) / 8) := Nat.mul_le_mul_right _ hpq.2
        rw [Nat.succ_mul] at this; omega
      unfold bitM
      have hmod : (q * ((W + 7) / 8) + p / 8) % ((W + 7) / 8) = p / 8 := by
        rw [Nat.mul_comm, Nat.mul_add_mod]; exact Nat.mod_eq_of_lt (by omega)
      have := s4 (q * ((W + 7) / 8) + p / 8) (by omega) (7 - p % 8) (by omega) (by rw [hmod]; omega)
      rw [← Nat.add_assoc] at this
      exact this
    · rw [decide_eq_false hpq, Bool.false_and, Bool.false_and]
def omG (om : ob_mShelf) (need c : Nat) : ob_mShelf := fs_mShelf_came (fs_mShelf_need (fs_mShelf_loading (fs_mShelf_thrown om 0) 1) (nI need)) (nI c)
theorem gl_byte {N need c : Nat} {om : ob_mShelf} {g : Nat → Int32} {y : Int32} (hN : 10 < N) (h8 : is8 y) (hc : c ≤ need) (hn : need ≤ 2048) : ex_mShelf_bytes N (omG om need c) g (nI (u8 y)).toInt64 1 = some (omG om need (min need (c + 1)), (if c < need then upd g c y else g), 1) := by
  obtain ⟨M, rfl⟩ : ∃ M, N = M + 2 := ⟨N - 2, by omega⟩
  unfold ex_mShelf_bytes
  rw [if_neg (show ¬ (1 : Int32) < 1 by decide), if_neg (show ¬ (8 : Int32) < 1 by decide), if_neg (show ¬ fd_mShelf_loading (omG om need c) = 0 from (by decide : ¬ (1 : Int32) = 0)), show (1 : Int32) - 1 = 0 from rfl]
  have hT : fs_mShelf_thrown (omG om need c) 0 = omG om need c := rfl
  have hlast : ∀ (o : ob_mShelf) (g : Nat → Int32), lp_mShelf_bytes_30 (nI (u8 y)).toInt64 (M + 1) (0 + (-1)) o g = some (o, g) := fun o g => by rw [lp_mShelf_bytes_30, if_pos (show (0 : Int32) + (-1) < 0 by decide)]
  have hne : fd_mShelf_need (omG om need c) = nI need := rfl
  have hca : fd_mShelf_came (omG om need c) = nI c := rfl
  rw [hT, lp_mShelf_bytes_30, if_neg (show ¬ (0 : Int32) < 0 by decide), hne, hca]
  by_cases q : c < need
  · have hy : (((nI (u8 y)).toInt64 >>> ((8 * (0 : Int32)).toInt64 &&& 63)) &&& 255).toInt32.toInt8.toInt32 = y := by
      have := by64_back (y := y) (is8_nar h8)
      rw [u8_and] at this; exact this
    rw [if_neg (nI_ge q (by omega)), hy]
    simp only [dk_let]
    rw [if_pos (dk_in_nI (by omega) (by omega)), nI_clamp (by omega), is8_vp h8]
    rw [hlast, nI_1, if_pos q, Nat.min_eq_right (by omega)]; rfl
  · have : c = need := by omega
    subst this
    rw [if_pos (nI_le (Nat.le_refl _) (by omega)), hlast, if_neg (by omega), Nat.min_eq_left (by omega)]; rfl
theorem gl_read {N m need : Nat} {or : ob_Ref} {od : ob_mDesk} {om : ob_mShelf} {gd gs gB : Nat → Int32} (hN : 10 < N) (hd : dtR m gd gs) (hn : need ≤ 2048) : ∀ (w fu t : Nat) (g : Nat → Int32), m - (10 + t) = w → w < fu → 10 + t ≤ m → (∀ i, i < min need t → g i = gd (10 + i)) →
    ∃ g', lp_Ref_glyph_58 N or od gs (nI m) fu (nI (10 + t)) g (omG om need (min need t)) = some (g', omG om need (min need (m - 10))) ∧ ∀ i, i < min need (m - 10) → g' i = gd (10 + i) := by
  have hm := hd.1
  intro w
  induction w with
  | zero =>
    intro fu t g hw hf ht hg
    obtain ⟨fu, rfl⟩ : ∃ z, fu = z + 1 := ⟨fu - 1, by omega⟩
    have : t = m - 10 := by omega
    subst this
    exact ⟨g, by rw [lp_Ref_glyph_58, if_pos (nI_le (by omega) (by omega))], hg⟩
  | succ w ih =>
    intro fu t g hw hf ht hg
    obtain ⟨fu, rfl⟩ : ∃ z, fu = z + 1 := ⟨fu - 1, by omega⟩
    have h8 := (hd.2 (10 + t) (by omega)).1
    rw [lp_Ref_glyph_58, if_neg (nI_ge (by omega) (by omega)), rs_dat hd (by omega)]
    simp only [Option.bind_some]
    rw [gl_byte hN h8 (by omega) hn]
    simp only [Option.bind_some]
    rw [nI_1]
    have hmin : min need (min need t + 1) = min need (t + 1) := by omega
    rw [hmin]
    refine ih fu (t + 1) _ (by omega) (by omega) (by omega) (fun i hi => ?_)
    by_cases q : min need t < need
    · rw [if_pos q]
      by_cases qi : i = min need t
      · subst qi; rw [pk_us]; congr 1; omega
      · rw [pk_un qi]; exact hg i (by omega)
    · rw [if_neg q]; exact hg i (by omega)
/-- a glyph is added on both sides -/
theorem sl_add {F n u st W Dp m : Nat} {k cd : Int32} {lf tp : Int} {ic pc ac gg gdt im pm am gm gs gg' gdt' gm' gs' gd : Nat → Int32} (h : slK F n u ic pc ac gg gdt im pm am gm gs) (hk : ∃ f, f < F ∧ ic f = k) (hno : ∀ c, c < n → ky (recC gg gdt c) ≠ (k, cd)) (e2 : gC (n + 1) (u + Dp * ((W + 7) / 8)) gg' gdt') (e3 : ∀ i, i < n → recC gg' gdt' i = recC gg gdt i) (e4 : recC gg' gdt' n = (k, cd, iI lf, iI tp, nI W, nI Dp, nI st, datD gd m W Dp)) (r2 : gwM (n + 1) (u + Dp * ((W + 7) / 8)) gm' gs') (r3 : ∀ i, i < n → recM gm' gs' i = recM gm gs i) (r4 : recM gm' gs' n = (k, cd, iI lf, iI tp, nI W, nI Dp, nI st, datD gd m W Dp)) :
    slK F (n + 1) (u + Dp * ((W + 7) / 8)) ic pc ac gg' gdt' im pm am gm' gs' := by
  obtain ⟨k1, k2, k3, k4, k5, k6, k7, k8, k9, k10, k11, k12⟩ := h
  refine ⟨k1, k2, k3, k4, k5, k6, k7, e2, r2, ?_, ?_, fun i hi => ?_⟩
  · rw [lst_succ, lst_succ, lst_congr n e3, lst_congr n r3, e4, r4]
    exact k10.append_right _
  · rw [lst_succ, lst_congr n e3, e4, List.map_append]
    have hp : ((lst (recC gg gdt) n).map ky ++ [(k, cd)]).Perm ((k, cd) :: (lst (recC gg gdt) n).map ky) := List.perm_append_comm (l₁ := (lst (recC gg gdt) n).map ky) (l₂ := [(k, cd)])
    refine (hp.nodup_iff).mpr (List.nodup_cons.mpr ⟨fun hm => ?_, k11⟩)
    obtain ⟨z, hz, hze⟩ := List.mem_map.mp hm
    obtain ⟨c, hc, hce⟩ := lst_mem.mp hz
    exact hno c hc (by rw [hce]; exact hze)
  · by_cases q : i = n
    · subst q; rw [e4]; exact hk
    · rw [e3 i (by omega)]; exact k12 i (by omega)
def ldT (N : Nat) (o : ob_FontShelf) (gg gdt gd : Nat → Int32) (v1 u4 u7 u10 u13 u16 : Int32) : Option rs_FontShelf_loadGlyph :=
  (ex_FontShelf_glyphOf N o gg (fd_FontShelf_id o) (fd_FontShelf_code o)).bind (fun u_19 => if u_19 < (0 : Int32) then (if (0 : Int32) ≤ u_19 then (if (((fd_FontShelf_used o) + (u13 * ((u10 + 7) / 8))) - 0) ≤ (16384 : Int32) then ((ex_FontShelf_removeGlyph N o gg gdt u_19).bind (addT N gd v1 u4 u7 u10 u13 u16)) else (some (o, gg, gdt))) else (if (256 : Int32) ≤ (fd_FontShelf_glyphCount o) then (some (o, gg, gdt)) else (if (((fd_FontShelf_used o) + (u13 * ((u10 + 7) / 8))) - 0) ≤ (16384 : Int32) then ((ex_FontShelf_removeGlyph N o gg gdt u_19).bind (addT N gd v1 u4 u7 u10 u13 u16)) else (some (o, gg, gdt))))) else ((ex_FontShelf_ofGlyph N o gg u_19 (8 : Int32)).bind (fun u_70 => if (0 : Int32) ≤ u_19 then (if (((fd_FontShelf_used o) + (u13 * ((u10 + 7) / 8))) - u_70) ≤ (16384 : Int32) then ((ex_FontShelf_removeGlyph N o gg gdt u_19).bind (addT N gd v1 u4 u7 u10 u13 u16)) else (some (o, gg, gdt))) else (if (256 : Int32) ≤ (fd_FontShelf_glyphCount o) then (some (o, gg, gdt)) else (if (((fd_FontShelf_used o) + (u13 * ((u10 + 7) / 8))) - u_70) ≤ (16384 : Int32) then ((ex_FontShelf_removeGlyph N o gg gdt u_19).bind (addT N gd v1 u4 u7 u10 u13 u16)) else (some (o, gg, gdt)))))))
theorem ld_eq (N : Nat) (o : ob_FontShelf) (gd ic gg gdt : Nat → Int32) (v1 : Int32) : ex_FontShelf_loadGlyph N o 4096 gd ic gg gdt v1 = if v1 < (10 : Int32) then (some (o, gg, gdt)) else (if (nI 4096) < v1 then (some (o, gg, gdt)) else ((ex_FontShelf_slotOf N o ic (fd_FontShelf_id o)).bind (fun u_1 => if (0 : Int32) ≤ u_1 then ((ex_FontShelf_pairAt N 4096 gd (0 : Int32)).bind (fun u_4 => (ex_FontShelf_pairAt N 4096 gd (2 : Int32)).bind (fun u_7 => (ex_FontShelf_pairAt N 4096 gd (4 : Int32)).bind (fun u_10 => (ex_FontShelf_pairAt N 4096 gd (6 : Int32)).bind (fun u_13 => (ex_FontShelf_pairAt N 4096 gd (8 : Int32)).bind (fun u_16 => if u_4 < ((-16384) : Int32) then (some (o, gg, gdt)) else (if (16384 : Int32) ≤ u_4 then (some (o, gg, gdt)) else (if u_7 < ((-16384) : Int32) then (some (o, gg, gdt)) else (if (16384 : Int32) ≤ u_7 then (some (o, gg, gdt)) else (if u_10 < (0 : Int32) then (some (o, gg, gdt)) else (if (128 : Int32) < u_10 then (some (o, gg, gdt)) else (if u_13 < (0 : Int32) then (some (o, gg, gdt)) else (if (128 : Int32) < u_13 then (some (o, gg, gdt)) else (if (0 : Int32) ≤ u_16 then (ldT N o gg gdt gd v1 u_4 u_7 u_10 u_13 u_16) else (some (o, gg, gdt))))))))))))))) ) else (some (o, gg, gdt))))) := rfl
theorem sl_ldT {N F n u m st W Dp : Nat} {lf tp : Int} {o : ob_FontShelf} {om : ob_mShelf} {ic pc ac gg gdt im pm am gm gst cm gB gd gs : Nat → Int32} (hN : 30000 < N) (hd : dtR m gd gs) (hm10 : 10 ≤ m) (h : slR F n u o om ic pc ac gg gdt im pm am gm gst) (hk : ∃ f, f < F ∧ ic f = fd_FontShelf_id o) (hgb : gyB lf tp W Dp st) (c0 : cm 0 = iI lf) (c1 : cm 1 = iI tp) (c2 : cm 2 = nI W) (c3 : cm 3 = nI Dp) (c4 : cm 4 = nI st) (hB : ∀ i, i < min (Dp * ((W + 7) / 8)) (m - 10) → gB i = gd (10 + i)) :
    ∃ n' u' o' om' gg' gdt' gm' gst' x, ldT N o gg gdt gd (nI m) (iI lf) (iI tp) (nI W) (nI Dp) (nI st) = some (o', gg', gdt') ∧ ex_mShelf_load N (omG om (Dp * ((W + 7) / 8)) (min (Dp * ((W + 7) / 8)) (m - 10))) gm cm gst gB = some (om', gm', gst', x) ∧ slR F n' u' o' om' ic pc ac gg' gdt' im pm am gm' gst' ∧ fd_FontShelf_chosenKnown o' = fd_FontShelf_chosenKnown o := by
  have h0 := h
  obtain ⟨hK, o1, o2, o3, m1, m2, m3, hi, hc⟩ := h
  obtain ⟨b1, b2, b3, b4, b5, b6, b7⟩ := hgb
  have hb : Dp * ((W + 7) / 8) ≤ 128 * 16 := Nat.mul_le_mul b6 (by omega)
  obtain ⟨by_, hby⟩ : ∃ by_, by_ = Dp * ((W + 7) / 8) := ⟨_, rfl⟩
  have hu := hK.2.2.2.2.2.2.2.1.1.2.1
  have hn := hK.2.2.2.2.2.2.2.1.1.1
  have eb : nI Dp * ((nI W + 7) / 8) = nI by_ := by
    have : (nI W + 7) / 8 = nI ((W + 7) / 8) := by rw [nI_addL]; exact nI_div (b := 8) (by omega) (by omega)
    rw [this, nI_mul, hby]
  rw [← hby] at hB hb ⊢
  obtain ⟨omL, homL⟩ : ∃ omL, omL = fs_mShelf_loading (fs_mShelf_thrown (omG om by_ (min by_ (m - 10))) 0) 0 := ⟨_, rfl⟩
  have L1 : fd_mShelf_fonts omL = nI F := by rw [homL]; exact m1
  have L2 : fd_mShelf_glyphs omL = nI n := by rw [homL]; exact m2
  have L3 : fd_mShelf_used omL = nI u := by rw [homL]; exact m3
  have L4 : fd_mShelf_need omL = nI by_ := by rw [homL]; rfl
  have L5 : fd_mShelf_came omL = nI (min by_ (m - 10)) := by rw [homL]; rfl
  have L6 : fd_mShelf_id omL = fd_FontShelf_id o := by rw [homL, hi]; rfl
  have L7 : fd_mShelf_code omL = fd_FontShelf_code o := by rw [homL, hc]; rfl
  have q1 : fd_mShelf_id (omG om by_ (min by_ (m - 10))) = fd_FontShelf_id o := hi.symm
  have q2 : fd_mShelf_code (omG om by_ (min by_ (m - 10))) = fd_FontShelf_code o := hc.symm
  have q3 : fd_mShelf_glyphs (omG om by_ (min by_ (m - 10))) = nI n := m2
  have q4 : fd_mShelf_used (omG om by_ (min by_ (m - 10))) = nI u := m3
  have q5 : fd_mShelf_need (omG om by_ (min by_ (m - 10))) = nI by_ := rfl
  have q6 : ¬ fd_mShelf_loading (omG om by_ (min by_ (m - 10))) = 0 := (by decide : ¬ (1 : Int32) = 0)
  have hci : ∀ i, i < by_ → (i < min by_ (m - 10) ↔ 10 + i < m) := fun i hi2 => by omega
  have hgl := sl_glyph (N := N) (o := o) (om := omL) (fd_FontShelf_id o) (fd_FontShelf_code o) (by omega) hK o2 L2
  unfold ldT ex_mShelf_load
  rw [if_neg q6, q1, q2, q3, q4, q5, ← homL, o2, o3, eb]
  -- nothing is loaded
  have stay : ∃ n' u' o' om' gg' gdt' gm' gst' x, some (o, gg, gdt) = some (o', gg', gdt') ∧ some (fs_mShelf_loading (fs_mShelf_thrown (omG om by_ (min by_ (m - 10))) 2) 0, gm, gst, (0 : Int32)) = some (om', gm', gst', x) ∧ slR F n' u' o' om' ic pc ac gg' gdt' im pm am gm' gst' ∧ fd_FontShelf_chosenKnown o' = fd_FontShelf_chosenKnown o := ⟨n, u, o, _, gg, gdt, gm, gst, 0, rfl, rfl, ⟨hK, o1, o2, o3, m1, m2, m3, hi, hc⟩, rfl⟩
  have e0 : nI u + nI by_ - 0 = nI (u + by_) := by rw [nI_add]; exact (nI_sub (a := u + by_) (b := 0) (by omega)).trans (by congr 1)
  rcases hgl with ⟨c, e, hc1, he1, hk1, hce, g1, g2⟩ | ⟨hno, _, g1, g2⟩
  · obtain ⟨n, rfl⟩ : ∃ z, n = z + 1 := ⟨n - 1, by omega⟩
    obtain ⟨u', gg1, gdt1, gm1, gst1, r1, r2, r3, r4, r5⟩ := sl_rem (N := N) (o := o) (om := omL) hN hK hc1 he1 hce o2 o3 L2 L3
    have hbc := gwC_at hK.2.2.2.2.2.2.2.1.1 hc1
    have hbm := gm_by (N := N) (o := omL) hK.2.2.2.2.2.2.2.2.1 he1
    have hbe : byM gm e = bC gg c := by rw [hbc.2.2.2, hce]; exact byM_rec gm gst e
    have of8 : ex_FontShelf_ofGlyph N o gg (nI c) 8 = some (nI (bC gg c)) := (fs_of (j := 8) (by omega)).trans (by rw [hbc.2.1])
    have hbcu : bC gg c ≤ u := by omega
    have ed : nI (u + by_) - nI (bC gg c) = nI (u + by_ - bC gg c) := nI_sub (by omega)
    have eg0 : nI (n + 1) + 0 = nI (n + 1) := nI_addL _ 0
    rw [g1, g2]
    simp only [Option.bind_some]
    rw [if_neg (nI_pos (by omega)), if_pos (show (0 : Int32) ≤ nI e from nI_le (a := 0) (by omega) (by omega)), if_pos (show (0 : Int32) ≤ nI e from nI_le (a := 0) (by omega) (by omega)), of8, hbm.1]
    simp only [Option.bind_some]
    rw [hbe, if_pos (show (0 : Int32) ≤ nI c from nI_le (a := 0) (by omega) (by omega)), eg0, if_neg (show ¬ (256 : Int32) < nI (n + 1) from nI_nlt (a := 256) (by omega) (by omega)), nI_add, ed]
    by_cases q : u + by_ - bC gg c ≤ 16384
    · rw [if_pos (show nI (u + by_ - bC gg c) ≤ 16384 from nI_le (b := 16384) q (by omega)), if_pos (show nI (u + by_ - bC gg c) ≤ 16384 from nI_le (b := 16384) q (by omega)), if_neg (nI_pos (by omega)), r1, r2]
      simp only [Option.bind_some]
      have hu' : u' + bC gg c = u := by rw [hbc.2.2.2]; exact r4
      obtain ⟨gg2, gdt2, a1, a2, a3, a4⟩ := add_c (N := N) (o := fs_FontShelf_used (fs_FontShelf_glyphCount o (nI n)) (nI u')) (lf := lf) (tp := tp) (W := W) (Dp := Dp) (st := st) (gg := gg1) (gdt := gdt1) hN hd r3.2.2.2.2.2.2.2.1 (by omega) rfl rfl ⟨b1, b2, b3, b4, b5, b6, b7⟩ (by omega)
      obtain ⟨gm2, gst2, x, d1, d2, d3, d4⟩ := add_m (N := N) (c := min by_ (m - 10)) (o := fs_mShelf_used (fs_mShelf_glyphs omL (nI n)) (nI u')) (lf := lf) (tp := tp) (W := W) (Dp := Dp) (st := st) (cm := cm) (gB := gB) (gm := gm1) (gst := gst1) hN hd r3.2.2.2.2.2.2.2.2.1 (by omega) rfl rfl (by rw [← hby]; exact L4) L5 (by omega) (by rw [← hby]; exact hci) hB c0 c1 c2 c3 c4 ⟨b1, b2, b3, b4, b5, b6, b7⟩ (by omega)
      rw [a1, d1]
      have hid : fd_mShelf_id (fs_mShelf_used (fs_mShelf_glyphs omL (nI n)) (nI u')) = fd_FontShelf_id o := L6
      have hcd : fd_mShelf_code (fs_mShelf_used (fs_mShelf_glyphs omL (nI n)) (nI u')) = fd_FontShelf_code o := L7
      rw [hid, hcd] at d4
      refine ⟨n + 1, _, _, _, gg2, gdt2, gm2, gst2, x, rfl, rfl, ⟨sl_add r3 hk (fun z hz hh => ?_) a2 a3 a4 d2 d3 d4, o1, rfl, rfl, L1, rfl, rfl, L6.symm, L7.symm⟩, rfl⟩
      have hnd := ((r5.map ky).nodup_iff).mpr hK.2.2.2.2.2.2.2.2.2.2.1
      rw [List.map_cons, List.nodup_cons] at hnd
      exact hnd.1 (by rw [hk1, ← hh]; exact List.mem_map.mpr ⟨_, lst_mem.mpr ⟨z, hz, rfl⟩, rfl⟩)
    · rw [if_neg (show ¬ nI (u + by_ - bC gg c) ≤ 16384 from nI_ge (a := 16384) (by omega) (by omega)), if_neg (show ¬ nI (u + by_ - bC gg c) ≤ 16384 from nI_ge (a := 16384) (by omega) (by omega))]
      exact stay
  · have c1' : (-1 : Int32) < 0 := by decide
    have c2' : ¬ (0 : Int32) ≤ -1 := by decide
    rw [g1, g2]
    simp only [Option.bind_some]
    rw [if_pos c1', if_neg c2', if_neg c2', if_neg c2', nI_1]
    by_cases q : 256 ≤ n
    · rw [if_pos (show (256 : Int32) ≤ nI n from nI_le (a := 256) q (by omega)), if_pos (show (256 : Int32) < nI (n + 1) from nI_lt (a := 256) (by omega) (by omega))]
      exact stay
    · rw [if_neg (show ¬ (256 : Int32) ≤ nI n from nI_ge (b := 256) (by omega) (by omega)), if_neg (show ¬ (256 : Int32) < nI (n + 1) from nI_nlt (a := 256) (by omega) (by omega)), e0]
      by_cases qu : u + by_ ≤ 16384
      · rw [if_pos (show nI (u + by_) ≤ 16384 from nI_le (b := 16384) qu (by omega)), if_pos (show nI (u + by_) ≤ 16384 from nI_le (b := 16384) qu (by omega)), if_pos c1']
        have hrm : ex_FontShelf_removeGlyph N o gg gdt (-1) = some (o, gg, gdt) := by unfold ex_FontShelf_removeGlyph; rw [if_pos c1']
        rw [hrm]
        simp only [Option.bind_some]
        obtain ⟨gg2, gdt2, a1, a2, a3, a4⟩ := add_c (N := N) (o := o) (lf := lf) (tp := tp) (W := W) (Dp := Dp) (st := st) (gg := gg) (gdt := gdt) hN hd hK.2.2.2.2.2.2.2.1 (by omega) o2 o3 ⟨b1, b2, b3, b4, b5, b6, b7⟩ (by omega)
        obtain ⟨gm2, gst2, x, d1, d2, d3, d4⟩ := add_m (N := N) (c := min by_ (m - 10)) (o := omL) (lf := lf) (tp := tp) (W := W) (Dp := Dp) (st := st) (cm := cm) (gB := gB) (gm := gm) (gst := gst) hN hd hK.2.2.2.2.2.2.2.2.1 (by omega) L2 L3 (by rw [← hby]; exact L4) L5 (by omega) (by rw [← hby]; exact hci) hB c0 c1 c2 c3 c4 ⟨b1, b2, b3, b4, b5, b6, b7⟩ (by omega)
        rw [a1, d1]
        rw [L6, L7] at d4
        exact ⟨n + 1, _, _, _, gg2, gdt2, gm2, gst2, x, rfl, rfl, ⟨sl_add hK hk hno a2 a3 a4 d2 d3 d4, o1, rfl, rfl, L1, rfl, rfl, L6.symm, L7.symm⟩, rfl⟩
      · rw [if_neg (show ¬ nI (u + by_) ≤ 16384 from nI_ge (a := 16384) (by omega) (by omega)), if_neg (show ¬ nI (u + by_) ≤ 16384 from nI_ge (a := 16384) (by omega) (by omega))]
        exact stay
theorem sl_loadGlyph {N F n u m : Nat} {or : ob_Ref} {od : ob_mDesk} {o : ob_FontShelf} {om : ob_mShelf} {ic pc ac gg gdt im pm am gm gst cm gB gd gs : Nat → Int32} (hN : 30000 < N) (hd : dtR m gd gs) (h : slR F n u o om ic pc ac gg gdt im pm am gm gst) :
    ∃ n' u' o' om' gg' gdt' gm' gst' cm' gB', ex_FontShelf_loadGlyph N o 4096 gd ic gg gdt (nI m) = some (o', gg', gdt') ∧ ex_Ref_glyph N or om od gs im cm gB gm gst (nI m) = some (om', cm', gB', gm', gst') ∧ slR F n' u' o' om' ic pc ac gg' gdt' im pm am gm' gst' ∧ fd_FontShelf_chosenKnown o' = fd_FontShelf_chosenKnown o := by
  have h0 := h
  obtain ⟨hK, o1, o2, o3, m1, m2, m3, hi, hc⟩ := h
  have hm := hd.1
  rw [ld_eq]
  unfold ex_Ref_glyph
  by_cases q10 : m < 10
  · rw [if_pos (show nI m < 10 from nI_lt (b := 10) q10 (by omega)), if_neg (show ¬ (10 : Int32) ≤ nI m from nI_ge (b := 10) q10 (by omega))]
    exact ⟨n, u, o, om, gg, gdt, gm, gst, cm, gB, rfl, rfl, h0, rfl⟩
  rw [if_neg (show ¬ nI m < 10 from nI_nlt (b := 10) (by omega) (by omega)), if_pos (show (10 : Int32) ≤ nI m from nI_le (a := 10) (by omega) (by omega)), if_neg (nI_nlt hm (by omega))]
  have A : ∀ a, a < 9 → ex_FontShelf_pairAt N 4096 gd (nI a) = some (iI (s16 (pr gd a))) := fun a ha => pair_c hd (by omega)
  have B : ∀ a, a < 9 → ex_Ref_datum2 N or od gs (nI a) = some (nI (pr gd a)) := fun a ha => pair_m hd (by omega)
  have A0 : ex_FontShelf_pairAt N 4096 gd 0 = some (iI (s16 (pr gd 0))) := A 0 (by omega)
  have A2 : ex_FontShelf_pairAt N 4096 gd 2 = some (iI (s16 (pr gd 2))) := A 2 (by omega)
  have A4 : ex_FontShelf_pairAt N 4096 gd 4 = some (iI (s16 (pr gd 4))) := A 4 (by omega)
  have A6 : ex_FontShelf_pairAt N 4096 gd 6 = some (iI (s16 (pr gd 6))) := A 6 (by omega)
  have A8 : ex_FontShelf_pairAt N 4096 gd 8 = some (iI (s16 (pr gd 8))) := A 8 (by omega)
  have B0 : ex_Ref_datum2 N or od gs 0 = some (nI (pr gd 0)) := B 0 (by omega)
  have B2 : ex_Ref_datum2 N or od gs 2 = some (nI (pr gd 2)) := B 2 (by omega)
  have B4 : ex_Ref_datum2 N or od gs 4 = some (nI (pr gd 4)) := B 4 (by omega)
  have B6 : ex_Ref_datum2 N or od gs 6 = some (nI (pr gd 6)) := B 6 (by omega)
  have B8 : ex_Ref_datum2 N or od gs 8 = some (nI (pr gd 8)) := B 8 (by omega)
  have p0 := pr_lt gd 0; have p2 := pr_lt gd 2; have p4 := pr_lt gd 4; have p6 := pr_lt gd 6; have p8 := pr_lt gd 8
  rw [B0, B2, B4, B6, B8]
  simp only [Option.bind_some]
  rw [to16 p0, to16 p2]
  have hb16 : ∀ x, x < 65536 → -32768 ≤ s16 x ∧ s16 x ≤ 32767 := fun x hx => by unfold s16; split <;> omega
  have hz0 := hb16 _ p0; have hz2 := hb16 _ p2; have hz4 := hb16 _ p4; have hz6 := hb16 _ p6; have hz8 := hb16 _ p8
  have hsl := sl_slot (N := N) (o := o) (om := om) (fd_FontShelf_id o) (by omega) hK o1 m1
  unfold ex_mShelf_glyph
  rw [← hi]
  -- the reference throws, the class does nothing
  have bad : ∀ (t : Int32), ¬ t ≤ 0 → ∃ n' u' o' om' gg' gdt' gm' gst' cm' gB', some (o, gg, gdt) = some (o', gg', gdt') ∧ (some (fs_mShelf_thrown om t, cm, (0 : Int32)) : Option rs_mShelf_glyph).bind (fun u_16 => if (fd_mShelf_thrown u_16.1) ≤ (0 : Int32) then ((lp_Ref_glyph_58 N or od gs (nI m) N (10 : Int32) gB u_16.1).bind (fun out_36 => (ex_mShelf_load N out_36.2 gm u_16.2.1 gst out_36.1).bind (fun u_43 => some (u_43.1, u_16.2.1, out_36.1, u_43.2.1, u_43.2.2.1)))) else (some (u_16.1, u_16.2.1, gB, gm, gst))) = some (om', cm', gB', gm', gst') ∧ slR F n' u' o' om' ic pc ac gg' gdt' im pm am gm' gst' ∧ fd_FontShelf_chosenKnown o' = fd_FontShelf_chosenKnown o := by
    intro t ht
    refine ⟨n, u, o, fs_mShelf_thrown om t, gg, gdt, gm, gst, cm, gB, rfl, ?_, ⟨hK, o1, o2, o3, m1, m2, m3, hi, hc⟩, rfl⟩
    simp only [Option.bind_some]
    rw [if_neg ht]
  rcases hsl with ⟨s, hs1, hs2, hs3, hs4⟩ | ⟨hno, hs3, hs4⟩
  · rw [hs3, hs4]
    simp only [Option.bind_some]
    rw [if_pos (show (0 : Int32) ≤ nI s from nI_le (a := 0) (by omega) (by have := hK.1; omega)), if_pos (show (0 : Int32) ≤ nI s from nI_le (a := 0) (by omega) (by have := hK.1; omega)), A0, A2, A4, A6, A8]
    simp only [Option.bind_some]
    have b2 : ¬ (2 : Int32) ≤ 0 := by decide
    have cA : ∀ z : Int, -32768 ≤ z → z ≤ 32767 → ((iI z < (-16384 : Int32)) ↔ z < -16384) ∧ (((16384 : Int32) ≤ iI z) ↔ 16384 ≤ z) ∧ (((16383 : Int32) < iI z) ↔ 16383 < z) := fun z h1 h2 => ⟨iI_lt (b := -16384) (by omega) (by omega), iI_le (a := 16384) (by omega) (by omega), iI_lt (a := 16383) (by omega) (by omega)⟩
    have c0 := cA _ hz0.1 hz0.2
    have c2 := cA _ hz2.1 hz2.2
    by_cases t1 : s16 (pr gd 0) < -16384
    · rw [if_pos (c0.1.mpr t1), if_pos (c0.1.mpr t1)]; exact bad 2 b2
    rw [if_neg (mt c0.1.mp t1), if_neg (mt c0.1.mp t1)]
    by_cases t2 : 16384 ≤ s16 (pr gd 0)
    · rw [if_pos (c0.2.1.mpr t2), if_pos (c0.2.2.mpr (by omega))]; exact bad 2 b2
    rw [if_neg (mt c0.2.1.mp t2), if_neg (mt c0.2.2.mp (by omega))]
    by_cases t3 : s16 (pr gd 2) < -16384
    · rw [if_pos (c2.1.mpr t3), if_pos (c2.1.mpr t3)]; exact bad 2 b2
    rw [if_neg (mt c2.1.mp t3), if_neg (mt c2.1.mp t3)]
    by_cases t4 : 16384 ≤ s16 (pr gd 2)
    · rw [if_pos (c2.2.1.mpr t4), if_pos (c2.2.2.mpr (by omega))]; exact bad 2 b2
    rw [if_neg (mt c2.2.1.mp t4), if_neg (mt c2.2.2.mp (by omega)), if_neg (show ¬ nI (pr gd 4) < 0 from nI_pos (by omega))]
    have cs : ∀ x, x < 65536 → (iI (s16 x) < 0 ↔ 32768 ≤ x) ∧ (x < 32768 → iI (s16 x) = nI x) := fun x hx => by
      have := hb16 x hx
      refine ⟨(iI_lt (b := 0) (by omega) (by omega)).trans (by unfold s16; split <;> omega), fun hq => by rw [nI_iI]; unfold s16; rw [if_pos hq]⟩
    have k4 := cs _ p4; have k6 := cs _ p6; have k8 := cs _ p8
    by_cases t5 : 128 < pr gd 4
    · rw [if_pos (show (128 : Int32) < nI (pr gd 4) from nI_lt (a := 128) t5 (by omega))]
      by_cases t5' : 32768 ≤ pr gd 4
      · rw [if_pos (k4.1.mpr t5')]; exact bad 2 b2
      · rw [if_neg (mt k4.1.mp t5'), k4.2 (by omega), if_pos (show (128 : Int32) < nI (pr gd 4) from nI_lt (a := 128) t5 (by omega))]; exact bad 2 b2
    rw [if_neg (show ¬ (128 : Int32) < nI (pr gd 4) from nI_nlt (a := 128) (by omega) (by omega)), if_neg (mt k4.1.mp (by omega)), k4.2 (by omega), if_neg (show ¬ (128 : Int32) < nI (pr gd 4) from nI_nlt (a := 128) (by omega) (by omega)), if_neg (show ¬ nI (pr gd 6) < 0 from nI_pos (by omega))]
    by_cases t6 : 128 < pr gd 6
    · rw [if_pos (show (128 : Int32) < nI (pr gd 6) from nI_lt (a := 128) t6 (by omega))]
      by_cases t6' : 32768 ≤ pr gd 6
      · rw [if_pos (k6.1.mpr t6')]; exact bad 2 b2
      · rw [if_neg (mt k6.1.mp t6'), k6.2 (by omega), if_pos (show (128 : Int32) < nI (pr gd 6) from nI_lt (a := 128) t6 (by omega))]; exact bad 2 b2
    rw [if_neg (show ¬ (128 : Int32) < nI (pr gd 6) from nI_nlt (a := 128) (by omega) (by omega)), if_neg (mt k6.1.mp (by omega)), k6.2 (by omega), if_neg (show ¬ (128 : Int32) < nI (pr gd 6) from nI_nlt (a := 128) (by omega) (by omega)), if_neg (show ¬ nI (pr gd 8) < 0 from nI_pos (by omega))]
    by_cases t8 : 32767 < pr gd 8
    · have hneg : ¬ (0 : Int32) ≤ iI (s16 (pr gd 8)) := by
        have := (iI_le (a := 0) (b := s16 (pr gd 8)) (by omega) (by omega))
        refine mt this.mp ?_
        unfold s16; rw [if_neg (by omega)]; omega
      rw [if_pos (show (32767 : Int32) < nI (pr gd 8) from nI_lt (a := 32767) t8 (by omega)), if_neg hneg]; exact bad 2 b2
    rw [if_neg (show ¬ (32767 : Int32) < nI (pr gd 8) from nI_nlt (a := 32767) (by omega) (by omega)), k8.2 (by omega), if_pos (show (0 : Int32) ≤ nI (pr gd 8) from nI_le (a := 0) (by omega) (by omega))]
    obtain ⟨by_, hby⟩ : ∃ by_, by_ = pr gd 6 * ((pr gd 4 + 7) / 8) := ⟨_, rfl⟩
    have hbb : by_ ≤ 128 * 16 := by rw [hby]; exact Nat.mul_le_mul (by omega) (by omega)
    have eb : nI (pr gd 6) * ((nI (pr gd 4) + 7) / 8) = nI by_ := by
      have : (nI (pr gd 4) + 7) / 8 = nI ((pr gd 4 + 7) / 8) := by rw [nI_addL]; exact nI_div (b := 8) (by omega) (by omega)
      rw [this, nI_mul, hby]
    simp only [dk_let, Option.bind_some]
    rw [eb, if_pos (show (0 : Int32) ≤ 0 by decide)]
    obtain ⟨cm', hcm⟩ : ∃ cm', cm' = upd (upd (upd (upd (upd cm 0 (iI (s16 (pr gd 0)))) 1 (iI (s16 (pr gd 2)))) 2 (nI (pr gd 4))) 3 (nI (pr gd 6))) 4 (nI (pr gd 8)) := ⟨_, rfl⟩
    rw [← hcm]
    obtain ⟨gB', l1, l2⟩ := gl_read (N := N) (or := or) (od := od) (om := om) (gB := gB) (need := by_) (by omega) hd (by omega) (m - 10) N 0 gB (by omega) (by omega) (by omega) (fun i hi => absurd hi (by omega))
    have l1' : lp_Ref_glyph_58 N or od gs (nI m) N 10 gB (fs_mShelf_came (fs_mShelf_need (fs_mShelf_loading (fs_mShelf_thrown om 0) 1) (nI by_)) 0) = some (gB', omG om by_ (min by_ (m - 10))) := by
      have : min by_ 0 = 0 := by omega
      rw [this] at l1; exact l1
    rw [l1']
    simp only [Option.bind_some]
    rw [hby] at l2
    obtain ⟨n', u', o', om', gg', gdt', gm', gst', x, r1, r2, r3, r4⟩ := sl_ldT (N := N) (cm := cm') (gB := gB') (lf := s16 (pr gd 0)) (tp := s16 (pr gd 2)) (W := pr gd 4) (Dp := pr gd 6) (st := pr gd 8) hN hd (by omega) h0 ⟨s, hs1, hs2⟩ ⟨by omega, by omega, by omega, by omega, by omega, by omega, by omega⟩ (by rw [hcm]; simp [upd]) (by rw [hcm]; simp [upd]) (by rw [hcm]; simp [upd]) (by rw [hcm]; simp [upd]) (by rw [hcm]; simp [upd]) l2
    rw [← hby] at r2
    rw [r1, r2]
    exact ⟨n', u', o', om', gg', gdt', gm', gst', cm', gB', rfl, rfl, r3, r4⟩
  · rw [hs3, hs4]
    simp only [Option.bind_some]
    rw [if_neg (show ¬ (0 : Int32) ≤ -1 by decide), if_neg (show ¬ (0 : Int32) ≤ -1 by decide)]
    exact bad 1 (by decide)
theorem l_step (v : Nat) (x : Int32) (hv : v < 2 ^ 48) : (lN v <<< ((8 : Int32).toInt64 &&& 63)) ||| ((x &&& 255).toInt64) = lN (256 * v + u8 x) := by
  have hu := u8_lt x
  rw [u8_and, nI_l (by omega)]
  apply Int64.toBitVec_inj.mp
  rw [Int64.toBitVec_or]
  apply BitVec.eq_of_toNat_eq
  rw [BitVec.toNat_or]
  have e8 : ((8 : Int32).toInt64 &&& 63) = (8 : Int64) := by decide
  rw [e8, Int64.toBitVec_shiftLeft]
  have hb : ∀ n, n < 2 ^ 63 → (lN n).toBitVec.toNat = n := fun n hn => by
    show (BitVec.ofNat 64 n).toNat = n
    rw [BitVec.toNat_ofNat]; exact Nat.mod_eq_of_lt (by omega)
  rw [hb _ (by omega), hb _ (by omega)]
  show ((lN v).toBitVec <<< 8).toNat ||| u8 x = _
  rw [BitVec.toNat_shiftLeft, hb _ (by omega), Nat.mod_eq_of_lt (by rw [Nat.shiftLeft_eq]; omega), ← Nat.shiftLeft_add_eq_or_of_lt (by omega), Nat.shiftLeft_eq]
  omega
def rdN (gd : Nat → Int32) (at_ : Nat) : Nat → Nat
  | 0 => 0
  | k + 1 => 256 * rdN gd at_ k + u8 (gd (at_ + k))
theorem rdN_lt (gd : Nat → Int32) (at_ : Nat) : ∀ k, rdN gd at_ k < 256 ^ k := by
  intro k
  induction k with
  | zero => show 0 < 1; omega
  | succ k ih =>
    have := u8_lt (gd (at_ + k))
    show 256 * rdN gd at_ k + u8 (gd (at_ + k)) < 256 ^ k * 256
    omega
def szA (a : Nat) : Nat := ([2, 1, 2, 4, 2, 1, 2] : List Nat).getD a 0
def poA (a : Nat) : Nat := ([0, 2, 3, 5, 9, 11, 12, 14] : List Nat).getD a 0
theorem sz_tabA : ∀ a, a < 7 → tb_FontShelf_SIZES a = nI (szA a) ∧ 1 ≤ szA a ∧ szA a ≤ 4 ∧ poA a + szA a = poA (a + 1) ∧ poA (a + 1) ≤ 14 := by decide +kernel
theorem at_read {N a at_ : Nat} {gd : Nat → Int32} (ha : a < 7) (hat : at_ + 4 ≤ 4096) : ∀ (m fu k : Nat), szA a - k = m → m < fu → k ≤ szA a → lp_FontShelf_readAttributes_16e4 4096 gd (nI a) fu (nI k) (lN (rdN gd at_ k)) (nI (at_ + k)) = some (lN (rdN gd at_ (szA a)), nI (at_ + szA a)) := by
  obtain ⟨z1, z2, z3, z4, z5⟩ := sz_tabA a ha
  have hcl : (nI a).toNatClampNeg = a := nI_clamp (by omega)
  intro m
  induction m with
  | zero =>
    intro fu k hm hf hk
    obtain ⟨fu, rfl⟩ : ∃ z, fu = z + 1 := ⟨fu - 1, by omega⟩
    have : k = szA a := by omega
    subst this
    rw [lp_FontShelf_readAttributes_16e4, if_pos (dk_in_nI ha (by omega)), if_pos (by rw [hcl, z1]; exact nI_le (Nat.le_refl _) (by omega))]
  | succ m ih =>
    intro fu k hm hf hk
    obtain ⟨fu, rfl⟩ : ∃ z, fu = z + 1 := ⟨fu - 1, by omega⟩
    have hb : rdN gd at_ k < 2 ^ 48 := by
      have h1 := rdN_lt gd at_ k
      have h2 : 256 ^ k ≤ 256 ^ 4 := Nat.pow_le_pow_right (by omega) (by omega)
      have h3 : (256 : Nat) ^ 4 ≤ 2 ^ 48 := by decide
      omega
    rw [lp_FontShelf_readAttributes_16e4, if_pos (dk_in_nI ha (by omega)), if_neg (by rw [hcl, z1]; exact nI_ge (by omega) (by omega)), if_neg (nI_ge (show at_ + k < 4096 by omega) (by omega)), if_pos (dk_in_nI (by omega) (by omega)), nI_clamp (by omega), l_step _ _ hb, dk_let, nI_1, nI_1]
    exact ih fu (k + 1) (by omega) (by omega) (by omega)
def loA (a : Nat) : Int := if a = 5 then -7 else if a = 2 ∨ a = 3 then 1 else 0
def hiA (a : Nat) : Int := ([2047, 1, 57600, 99999, 32767, 7, 65535] : List Int).getD a 0
theorem lo_tab : ∀ a, a < 7 → (tb_FontShelf_LEAST a).toInt64 = lI (loA a) ∧ (tb_FontShelf_MOST a).toInt64 = lI (hiA a) ∧ -7 ≤ loA a ∧ loA a ≤ 1 ∧ 1 ≤ hiA a ∧ hiA a ≤ 99999 := by decide +kernel
def okV (a : Nat) (z : Int) : Bool := decide (loA a ≤ z ∧ z ≤ hiA a)
theorem can_be {N a : Nat} {z : Int} (ha : a < 7) (hz : -2 ^ 62 ≤ z ∧ z < 2 ^ 62) : ex_FontShelf_canBe N (nI a) (lI z) = some (nI (okV a z).toNat) := by
  obtain ⟨t1, t2, t3, t4, t5, t6⟩ := lo_tab a ha
  have hcl : (nI a).toNatClampNeg = a := nI_clamp (by omega)
  have c1 : lg_cmp (lI z) (lI (loA a)) < 0 ↔ z < loA a := lcmp_lt (by omega) (by omega)
  have c2 : 0 < lg_cmp (lI z) (lI (hiA a)) ↔ hiA a < z := lcmp_gt (by omega) (by omega)
  unfold ex_FontShelf_canBe okV
  rw [if_neg (nI_pos (by omega)), if_neg (show ¬ (7 : Int32) ≤ nI a from nI_ge (b := 7) ha (by omega)), if_pos (dk_in_nI ha (by omega)), if_pos (dk_in_nI ha (by omega))]
  by_cases q1 : z < loA a
  · rw [if_pos (by rw [hcl, t1]; exact c1.mpr q1), decide_eq_false (by omega)]; rfl
  · rw [if_neg (by rw [hcl, t1]; exact mt c1.mp q1)]
    by_cases q2 : hiA a < z
    · rw [if_pos (by rw [hcl, t2]; exact c2.mpr q2), decide_eq_false (by omega)]; rfl
    · rw [if_neg (by rw [hcl, t2]; exact mt c2.mp q2), decide_eq_true (by omega)]; rfl
def avN (gd : Nat → Int32) (a : Nat) : Int := if a = 5 then (gd 11).toInt else ((rdN gd (poA a) (szA a) : Nat) : Int)
theorem iI_self (x : Int32) : iI x.toInt = x := Int32.ofInt_toInt x
theorem u8_sgn {y : Int32} (h : is8 y) : (nI (u8 y)).toInt8.toInt32 = y := by
  refine u8_inj (is8_to _) h ?_
  have := u8_lt y
  rw [u8_to, u8_nI (by omega), Nat.mod_eq_of_lt this]
theorem av_bound {m a : Nat} {gd gs : Nat → Int32} (hd : dtR m gd gs) (hm : 14 ≤ m) (ha : a < 7) : -128 ≤ avN gd a ∧ avN gd a < 256 ^ 4 := by
  unfold avN
  by_cases q : a = 5
  · rw [if_pos q]
    have := (is8_iff (gd 11)).mp (hd.2 11 (by omega)).1
    omega
  · rw [if_neg q]
    have h1 := rdN_lt gd (poA a) (szA a)
    have h2 : 256 ^ szA a ≤ 256 ^ 4 := Nat.pow_le_pow_right (by omega) (sz_tabA a ha).2.2.1
    omega
theorem rd_step {N m a fu : Nat} {gd gs g : Nat → Int32} (hN : 100 < N) (hd : dtR m gd gs) (hm : 14 ≤ m) (ha : a < 7) : lp_FontShelf_readAttributes_4d3 N 4096 gd (fu + 1) (nI a) (nI (poA a)) g = if okV a (avN gd a) = true then lp_FontShelf_readAttributes_4d3 N 4096 gd fu (nI (a + 1)) (nI (poA (a + 1))) (upd g a (iI (avN gd a))) else some (Sum.inr (g, 0)) := by
  obtain ⟨z1, z2, z3, z4, z5⟩ := sz_tabA a ha
  have hab := av_bound hd hm ha
  have hr := at_read (N := N) (a := a) (at_ := poA a) (gd := gd) ha (by omega) (szA a) N 0 rfl (by omega) (by omega)
  have hr' : lp_FontShelf_readAttributes_16e4 4096 gd (nI a) N 0 0 (nI (poA a)) = some (lN (rdN gd (poA a) (szA a)), nI (poA a + szA a)) := hr
  have hin : dk_in (nI a) 7 := dk_in_nI ha (by omega)
  have hcl : (nI a).toNatClampNeg = a := nI_clamp (by omega)
  have hcb := can_be (N := N) (z := avN gd a) ha (by omega)
  rw [lp_FontShelf_readAttributes_4d3, if_neg (show ¬ (7 : Int32) ≤ nI a from nI_ge (b := 7) ha (by omega)), hr', z4]
  simp only [Option.bind_some]
  by_cases q : a = 5
  · subst q
    have h8 := (hd.2 11 (by omega)).1
    have hu := u8_lt (gd 11)
    have e1 : (lN (rdN gd (poA 5) (szA 5))).toInt32 = nI (u8 (gd 11)) := by
      have : rdN gd (poA 5) (szA 5) = u8 (gd 11) := by show 256 * 0 + u8 (gd 11) = _; omega
      rw [this]; exact lI_i ((u8 (gd 11) : Nat) : Int)
    have e2 : (gd 11).toInt64 = lI (avN gd 5) := by
      have : avN gd 5 = (gd 11).toInt := if_pos rfl
      rw [this]
      have hb := (is8_iff (gd 11)).mp h8
      have := iI_l (z := (gd 11).toInt) (by omega)
      rw [iI_self] at this; exact this
    have e3 : (lI (avN gd 5)).toInt32 = iI (avN gd 5) := lI_i _
    rw [if_pos (show nI 5 = 5 from rfl), e1, u8_sgn h8, e2, hcb]
    simp only [Option.bind_some]
    rw [e3]
    cases hok : okV 5 (avN gd 5) with
    | true => rw [if_neg (show ¬ nI (true).toNat = 0 by decide), if_pos hin, hcl, if_pos rfl, dk_let, nI_1]
    | false => rw [if_pos (show nI (false).toNat = 0 from rfl), if_neg (by decide)]
  · have ev : avN gd a = ((rdN gd (poA a) (szA a) : Nat) : Int) := if_neg q
    have e2 : lN (rdN gd (poA a) (szA a)) = lI (avN gd a) := by rw [ev]; rfl
    have e3 : (lI (avN gd a)).toInt32 = iI (avN gd a) := lI_i _
    rw [if_neg (show ¬ nI a = 5 from mt (nI_eq (b := 5) (by omega) (by omega)).mp q), e2, hcb]
    simp only [Option.bind_some]
    rw [e3]
    cases hok : okV a (avN gd a) with
    | true => rw [if_neg (show ¬ nI (true).toNat = 0 by decide), if_pos hin, hcl, if_pos rfl, dk_let, nI_1]
    | false => rw [if_pos (show nI (false).toNat = 0 from rfl), if_neg (by decide)]
def okAll (gd : Nat → Int32) : Bool := okV 0 (avN gd 0) && (okV 1 (avN gd 1) && (okV 2 (avN gd 2) && (okV 3 (avN gd 3) && (okV 4 (avN gd 4) && (okV 5 (avN gd 5) && okV 6 (avN gd 6))))))
theorem okAll_iff (gd : Nat → Int32) : okAll gd = true ↔ ∀ a, a < 7 → okV a (avN gd a) = true := by
  unfold okAll
  simp only [Bool.and_eq_true]
  constructor
  · rintro ⟨h0, h1, h2, h3, h4, h5, h6⟩ a ha
    have : a = 0 ∨ a = 1 ∨ a = 2 ∨ a = 3 ∨ a = 4 ∨ a = 5 ∨ a = 6 := by omega
    rcases this with rfl | rfl | rfl | rfl | rfl | rfl | rfl <;> assumption
  · intro h
    exact ⟨h 0 (by omega), h 1 (by omega), h 2 (by omega), h 3 (by omega), h 4 (by omega), h 5 (by omega), h 6 (by omega)⟩
theorem rd_all {N m : Nat} {o : ob_FontShelf} {gd gs g : Nat → Int32} (hN : 100 < N) (hd : dtR m gd gs) (hm : 14 ≤ m) : ∃ g', ex_FontShelf_readAttributes N o 4096 gd g = some (g', nI (okAll gd).toNat) ∧ (okAll gd = true → ∀ a, a < 7 → g' a = iI (avN gd a)) := by
  have lp : ∀ (w fu a : Nat) (g : Nat → Int32), 7 - a = w → w < fu → a ≤ 7 → (∃ g', lp_FontShelf_readAttributes_4d3 N 4096 gd fu (nI a) (nI (poA a)) g = some (Sum.inl g') ∧ (∀ j, a ≤ j → j < 7 → okV j (avN gd j) = true) ∧ ∀ j, g' j = if a ≤ j ∧ j < 7 then iI (avN gd j) else g j) ∨ (∃ g', lp_FontShelf_readAttributes_4d3 N 4096 gd fu (nI a) (nI (poA a)) g = some (Sum.inr (g', 0)) ∧ ∃ j, a ≤ j ∧ j < 7 ∧ okV j (avN gd j) = false) := by
    intro w
    induction w with
    | zero =>
      intro fu a g hw hf ha
      obtain ⟨fu, rfl⟩ : ∃ z, fu = z + 1 := ⟨fu - 1, by omega⟩
      have : a = 7 := by omega
      subst this
      exact Or.inl ⟨g, by rw [lp_FontShelf_readAttributes_4d3, if_pos (show (7 : Int32) ≤ nI 7 by decide)], fun j h1 h2 => by omega, fun j => by rw [if_neg (by omega)]⟩
    | succ w ih =>
      intro fu a g hw hf ha
      obtain ⟨fu, rfl⟩ : ∃ z, fu = z + 1 := ⟨fu - 1, by omega⟩
      rw [rd_step hN hd hm (show a < 7 by omega)]
      cases hok : okV a (avN gd a) with
      | true =>
        rw [if_pos rfl]
        rcases ih fu (a + 1) (upd g a (iI (avN gd a))) (by omega) (by omega) (by omega) with ⟨g', e1, e2, e3⟩ | ⟨g', e1, j, e2, e3, e4⟩
        · refine Or.inl ⟨g', e1, fun j h1 h2 => ?_, fun j => ?_⟩
          · by_cases q : j = a
            · subst q; exact hok
            · exact e2 j (by omega) h2
          · rw [e3]
            by_cases q : j = a
            · subst q; rw [if_neg (by omega), pk_us, if_pos (by omega)]
            · rw [pk_un q]
              by_cases q2 : a + 1 ≤ j ∧ j < 7
              · rw [if_pos q2, if_pos (by omega)]
              · rw [if_neg q2, if_neg (by omega)]
        · exact Or.inr ⟨g', e1, j, by omega, e3, e4⟩
      | false =>
        rw [if_neg (by decide)]
        exact Or.inr ⟨g, rfl, a, Nat.le_refl _, by omega, hok⟩
  unfold ex_FontShelf_readAttributes
  rcases lp 7 N 0 g rfl (by omega) (by omega) with ⟨g', e1, e2, e3⟩ | ⟨g', e1, j, e2, e3, e4⟩
  · have e1' : lp_FontShelf_readAttributes_4d3 N 4096 gd N 0 0 g = some (Sum.inl g') := e1
    have hall : ∀ a, a < 7 → okV a (avN gd a) = true := fun a ha => e2 a (by omega) ha
    refine ⟨g', by rw [e1', (okAll_iff gd).mpr hall]; rfl, fun _ a ha => by rw [e3, if_pos ⟨by omega, ha⟩]⟩
  · have e1' : lp_FontShelf_readAttributes_4d3 N 4096 gd N 0 0 g = some (Sum.inr (g', 0)) := e1
    have hno : ¬ ∀ a, a < 7 → okV a (avN gd a) = true := fun hh => by have := hh j e3; rw [e4] at this; exact absurd this (by decide)
    have hf : okAll gd = false := by
      cases hq : okAll gd with
      | false => rfl
      | true => exact absurd ((okAll_iff gd).mp hq) hno
    exact ⟨g', by rw [e1', hf]; rfl, fun hh => by rw [hf] at hh; exact absurd hh (by decide)⟩
theorem m_fits {N a : Nat} {z : Int} (ha : a < 7) (hz : -2147483648 ≤ z ∧ z < 2147483648) : ex_mShelf_fits N (nI a) (iI z) = some (nI (okV a z).toNat) := by
  have lt : ∀ b : Int, -2147483648 ≤ b ∧ b < 2147483648 → (iI z < iI b ↔ z < b) := fun b hb => iI_lt hz hb
  have gt : ∀ b : Int, -2147483648 ≤ b ∧ b < 2147483648 → (iI b < iI z ↔ b < z) := fun b hb => iI_lt hb hz
  have eq : ∀ b : Int, -2147483648 ≤ b ∧ b < 2147483648 → (iI z = iI b ↔ z = b) := fun b hb => iI_eq hz hb
  have gen : ∀ (lo hi : Int), -100000 ≤ lo → lo ≤ 100000 → -100000 ≤ hi → hi ≤ 100000 → loA a = lo → hiA a = hi → (if iI z < iI lo then (some 0 : Option Int32) else (if iI hi < iI z then some 0 else some 1)) = some (nI (okV a z).toNat) := by
    intro lo hi l1 l2 h1 h2 e1 e2
    unfold okV
    rw [e1, e2]
    by_cases q1 : z < lo
    · rw [if_pos ((lt lo (by omega)).mpr q1), decide_eq_false (by omega)]; rfl
    · rw [if_neg (mt (lt lo (by omega)).mp q1)]
      by_cases q2 : hi < z
      · rw [if_pos ((gt hi (by omega)).mpr q2), decide_eq_false (by omega)]; rfl
      · rw [if_neg (mt (gt hi (by omega)).mp q2), decide_eq_true (by omega)]; rfl
  have ha' : a = 0 ∨ a = 1 ∨ a = 2 ∨ a = 3 ∨ a = 4 ∨ a = 5 ∨ a = 6 := by omega
  unfold ex_mShelf_fits
  rcases ha' with rfl | rfl | rfl | rfl | rfl | rfl | rfl
  · exact gen 0 2047 (by omega) (by omega) (by omega) (by omega) rfl rfl
  · show (if iI z = iI 0 then some 1 else (if iI z = iI 1 then some 1 else some 0)) = _
    unfold okV
    show _ = some (nI (decide (0 ≤ z ∧ z ≤ 1)).toNat)
    by_cases q0 : z = 0
    · rw [if_pos ((eq 0 (by omega)).mpr q0), decide_eq_true (by omega)]; rfl
    · rw [if_neg (mt (eq 0 (by omega)).mp q0)]
      by_cases q1 : z = 1
      · rw [if_pos ((eq 1 (by omega)).mpr q1), decide_eq_true (by omega)]; rfl
      · rw [if_neg (mt (eq 1 (by omega)).mp q1), decide_eq_false (by omega)]; rfl
  · exact gen 1 57600 (by omega) (by omega) (by omega) (by omega) rfl rfl
  · exact gen 1 99999 (by omega) (by omega) (by omega) (by omega) rfl rfl
  · exact gen 0 32767 (by omega) (by omega) (by omega) (by omega) rfl rfl
  · exact gen (-7) 7 (by omega) (by omega) (by omega) (by omega) rfl rfl
  · exact gen 0 65535 (by omega) (by omega) (by omega) (by omega) rfl rfl
def drN (gd dr : Nat → Int32) : Nat → Int32 := upd (upd (upd (upd (upd (upd (upd dr 0 (iI (avN gd 0))) 1 (iI (avN gd 1))) 2 (iI (avN gd 2))) 3 (iI (avN gd 3))) 4 (iI (avN gd 4))) 5 (iI (avN gd 5))) 6 (iI (avN gd 6))
theorem drN_get (gd dr : Nat → Int32) : ∀ a, a < 7 → drN gd dr a = iI (avN gd a) := by
  intro a ha
  have : a = 0 ∨ a = 1 ∨ a = 2 ∨ a = 3 ∨ a = 4 ∨ a = 5 ∨ a = 6 := by omega
  rcases this with rfl | rfl | rfl | rfl | rfl | rfl | rfl <;> (unfold drN; simp [upd])
theorem av_0 (gd : Nat → Int32) : avN gd 0 = ((pr gd 0 : Nat) : Int) := by
  have h : rdN gd 0 2 = 256 * (256 * 0 + u8 (gd 0)) + u8 (gd 1) := rfl
  have h2 : pr gd 0 = 256 * u8 (gd 0) + u8 (gd 1) := rfl
  have h3 : avN gd 0 = ((rdN gd 0 2 : Nat) : Int) := rfl
  rw [h3, h2, h]; omega
theorem av_1 (gd : Nat → Int32) : avN gd 1 = ((u8 (gd 2) : Nat) : Int) := by
  have h : rdN gd 2 1 = 256 * 0 + u8 (gd 2) := rfl
  have h3 : avN gd 1 = ((rdN gd 2 1 : Nat) : Int) := rfl
  rw [h3, h]; omega
theorem av_2 (gd : Nat → Int32) : avN gd 2 = ((pr gd 3 : Nat) : Int) := by
  have h : rdN gd 3 2 = 256 * (256 * 0 + u8 (gd 3)) + u8 (gd 4) := rfl
  have h2 : pr gd 3 = 256 * u8 (gd 3) + u8 (gd 4) := rfl
  have h3 : avN gd 2 = ((rdN gd 3 2 : Nat) : Int) := rfl
  rw [h3, h2, h]; omega
theorem av_3 (gd : Nat → Int32) : avN gd 3 = ((65536 * pr gd 5 + pr gd 7 : Nat) : Int) := by
  have h : rdN gd 5 4 = 256 * (256 * (256 * (256 * 0 + u8 (gd 5)) + u8 (gd 6)) + u8 (gd 7)) + u8 (gd 8) := rfl
  have h2 : pr gd 5 = 256 * u8 (gd 5) + u8 (gd 6) := rfl
  have h2' : pr gd 7 = 256 * u8 (gd 7) + u8 (gd 8) := rfl
  have h3 : avN gd 3 = ((rdN gd 5 4 : Nat) : Int) := rfl
  rw [h3, h2, h2', h]; omega
theorem av_4 (gd : Nat → Int32) : avN gd 4 = ((pr gd 9 : Nat) : Int) := by
  have h : rdN gd 9 2 = 256 * (256 * 0 + u8 (gd 9)) + u8 (gd 10) := rfl
  have h2 : pr gd 9 = 256 * u8 (gd 9) + u8 (gd 10) := rfl
  have h3 : avN gd 4 = ((rdN gd 9 2 : Nat) : Int) := rfl
  rw [h3, h2, h]; omega
theorem av_6 (gd : Nat → Int32) : avN gd 6 = ((pr gd 12 : Nat) : Int) := by
  have h : rdN gd 12 2 = 256 * (256 * 0 + u8 (gd 12)) + u8 (gd 13) := rfl
  have h2 : pr gd 12 = 256 * u8 (gd 12) + u8 (gd 13) := rfl
  have h3 : avN gd 6 = ((rdN gd 12 2 : Nat) : Int) := rfl
  rw [h3, h2, h]; omega
theorem fit_n {N a n : Nat} {v : Int32} {z : Int} (ha : a < 7) (hv : v = nI a) (hz : z = ((n : Nat) : Int)) (hn : n < 2 ^ 31) : ex_mShelf_fits N v (nI n) = some (nI (okV a z).toNat) := by
  have e : nI n = iI z := by rw [hz]; rfl
  rw [hv, e]; exact m_fits ha (by omega)
theorem fit_z {N a : Nat} {v : Int32} {z : Int} (ha : a < 7) (hv : v = nI a) (hz : -2147483648 ≤ z ∧ z < 2147483648) : ex_mShelf_fits N v (iI z) = some (nI (okV a z).toNat) := by
  rw [hv]; exact m_fits ha hz
theorem rf_header {N m : Nat} {or : ob_Ref} {od : ob_mDesk} {om : ob_mShelf} {gd gs dr im am pm gm gst : Nat → Int32} (hd : dtR m gd gs) (hm : 14 ≤ m) :
    ex_Ref_header N or od gs om 7 dr im am pm gm gst (nI m) = if okAll gd = true then (ex_mShelf_header N om im pm am 7 (drN gd dr) gm gst).bind (fun u_72 => some (u_72.1, drN gd dr, u_72.2.1, u_72.2.2.2.1, u_72.2.2.1, u_72.2.2.2.2.1, u_72.2.2.2.2.2.1)) else some (om, dr, im, am, pm, gm, gst) := by
  have hm4 := hd.1
  have b_ : ∀ a, a + 1 < m → ex_Ref_datum2 N or od gs (nI a) = some (nI (pr gd a)) := fun a ha => pair_m hd ha
  have D0 : ex_Ref_datum2 N or od gs 0 = some (nI (pr gd 0)) := b_ 0 (by omega)
  have D3 : ex_Ref_datum2 N or od gs 3 = some (nI (pr gd 3)) := b_ 3 (by omega)
  have D5 : ex_Ref_datum2 N or od gs 5 = some (nI (pr gd 5)) := b_ 5 (by omega)
  have D7 : ex_Ref_datum2 N or od gs 7 = some (nI (pr gd 7)) := b_ 7 (by omega)
  have D9 : ex_Ref_datum2 N or od gs 9 = some (nI (pr gd 9)) := b_ 9 (by omega)
  have D12 : ex_Ref_datum2 N or od gs 12 = some (nI (pr gd 12)) := b_ 12 (by omega)
  have C2 : ex_Ref_datum N or od gs 2 = some (nI (u8 (gd 2))) := rs_dat hd (show 2 < m by omega)
  have C11 : ex_Ref_datum N or od gs 11 = some (nI (u8 (gd 11))) := rs_dat hd (show 11 < m by omega)
  have l0 := u8_lt (gd 0); have l1 := u8_lt (gd 1); have l2 := u8_lt (gd 2); have l3 := u8_lt (gd 3); have l4 := u8_lt (gd 4); have l5 := u8_lt (gd 5); have l6 := u8_lt (gd 6); have l7 := u8_lt (gd 7); have l8 := u8_lt (gd 8)
  have p5 := pr_lt gd 5; have p7 := pr_lt gd 7
  have a0 := av_0 gd
  have a1 := av_1 gd
  have a2 := av_2 gd
  have a3 := av_3 gd
  have a4 := av_4 gd
  have a6 := av_6 gd
  have h8 := (hd.2 11 (by omega)).1
  have a5 : avN gd 5 = (gd 11).toInt := if_pos rfl
  have hb11 := (is8_iff (gd 11)).mp h8
  have e11 : (nI (u8 (gd 11))).toInt8.toInt32 = iI (avN gd 5) := by rw [u8_sgn h8, a5, iI_self]
  have q0 := pr_lt gd 0; have q3 := pr_lt gd 3; have q9 := pr_lt gd 9; have q12 := pr_lt gd 12
  have F0 : ex_mShelf_fits N 0 (nI (pr gd 0)) = some (nI (okV 0 (avN gd 0)).toNat) := fit_n (by omega) rfl a0 (by omega)
  have F1 : ex_mShelf_fits N 1 (nI (u8 (gd 2))) = some (nI (okV 1 (avN gd 1)).toNat) := fit_n (by omega) rfl a1 (by omega)
  have F2 : ex_mShelf_fits N 2 (nI (pr gd 3)) = some (nI (okV 2 (avN gd 2)).toNat) := fit_n (by omega) rfl a2 (by omega)
  have F4 : ex_mShelf_fits N 4 (nI (pr gd 9)) = some (nI (okV 4 (avN gd 4)).toNat) := fit_n (by omega) rfl a4 (by omega)
  have F5 : ex_mShelf_fits N 5 (iI (avN gd 5)) = some (nI (okV 5 (avN gd 5)).toNat) := fit_z (by omega) rfl (by omega)
  have F3 : ex_mShelf_fits N 3 (0 : Int32) = some 0 := rfl
  have o6 : okV 6 (avN gd 6) = true := by unfold okV; rw [a6]; exact decide_eq_true (show (0 : Int) ≤ _ ∧ _ ≤ (65535 : Int) from ⟨by omega, by omega⟩)
  have eh : 65536 * (nI (pr gd 5)).toInt64 + (nI (pr gd 7)).toInt64 = lI (avN gd 3) := by
    rw [nI_l (by omega), nI_l (by omega), a3]
    have e1 : (65536 : Int64) * lN (pr gd 5) = lN (65536 * pr gd 5) := lN_mul 65536 (pr gd 5)
    rw [e1, lN_add]; rfl
  have ec : lg_cmp (lI (avN gd 3)) 99999 ≤ 0 ↔ avN gd 3 ≤ 99999 := lcmp_le (b := 99999) (by rw [a3]; omega) (by omega)
  have F3h : avN gd 3 ≤ 99999 → ex_mShelf_fits N 3 (lI (avN gd 3)).toInt32 = some (nI (okV 3 (avN gd 3)).toNat) := fun hq => by rw [lI_i]; exact fit_z (by omega) rfl (by omega)
  have z0 : nI (false).toNat = 0 := rfl
  have z1 : ¬ nI (true).toNat = 0 := by decide
  have dr_ : ∀ j, j < 7 → dk_in (nI j) 7 := fun j hj => dk_in_nI hj (by omega)
  have d0 : dk_in (0 : Int32) 7 := dr_ 0 (by omega)
  have d1 : dk_in (1 : Int32) 7 := dr_ 1 (by omega)
  have d2 : dk_in (2 : Int32) 7 := dr_ 2 (by omega)
  have d3 : dk_in (3 : Int32) 7 := dr_ 3 (by omega)
  have d4 : dk_in (4 : Int32) 7 := dr_ 4 (by omega)
  have d5 : dk_in (5 : Int32) 7 := dr_ 5 (by omega)
  have d6 : dk_in (6 : Int32) 7 := dr_ 6 (by omega)
  unfold ex_Ref_header okAll
  rw [if_pos (show (14 : Int32) ≤ nI m from nI_le (a := 14) hm (by omega))]
  refine (bind_eq D5).trans ((bind_eq D7).trans ?_)
  rw [eh]
  by_cases hh : avN gd 3 ≤ 99999
  · rw [if_pos (ec.mpr hh)]
    refine (bind_eq D0).trans ((bind_eq F0).trans ?_)
    cases ok0 : okV 0 (avN gd 0) with
    | false => rw [if_pos z0, Bool.false_and, if_neg (by decide)]
    | true =>
    rw [if_neg z1, Bool.true_and]
    refine (bind_eq C2).trans ((bind_eq F1).trans ?_)
    cases ok1 : okV 1 (avN gd 1) with
    | false => rw [if_pos z0, Bool.false_and, if_neg (by decide)]
    | true =>
    rw [if_neg z1, Bool.true_and]
    refine (bind_eq D3).trans ((bind_eq F2).trans ?_)
    cases ok2 : okV 2 (avN gd 2) with
    | false => rw [if_pos z0, Bool.false_and, if_neg (by decide)]
    | true =>
    rw [if_neg z1, Bool.true_and]
    refine (bind_eq (F3h hh)).trans ?_
    cases ok3 : okV 3 (avN gd 3) with
    | false => rw [if_pos z0, Bool.false_and, if_neg (by decide)]
    | true =>
    rw [if_neg z1, Bool.true_and]
    refine (bind_eq D9).trans ((bind_eq F4).trans ?_)
    cases ok4 : okV 4 (avN gd 4) with
    | false => rw [if_pos z0, Bool.false_and, if_neg (by decide)]
    | true =>
    rw [if_neg z1, Bool.true_and]
    refine (bind_eq C11).trans ?_
    rw [e11]
    refine (bind_eq F5).trans ?_
    cases ok5 : okV 5 (avN gd 5) with
    | false => rw [if_pos z0, Bool.false_and, if_neg (by decide)]
    | true =>
    rw [if_neg z1, Bool.true_and, o6, if_pos rfl]
    refine (bind_eq D0).trans ?_
    rw [if_pos d0]
    refine (bind_eq C2).trans ?_
    rw [if_pos d1]
    refine (bind_eq D3).trans ?_
    rw [if_pos d2, dk_let, if_pos d3, dk_let]
    refine (bind_eq D9).trans ?_
    rw [if_pos d4]
    refine (bind_eq C11).trans ?_
    rw [if_pos d5]
    refine (bind_eq D12).trans ?_
    rw [if_pos d6, e11, lI_i]
    unfold drN
    rw [a0, a1, a2, a4, a6]
    rfl
  · have hno : okV 3 (avN gd 3) = false := by unfold okV; exact decide_eq_false (fun hq => hh hq.2)
    rw [if_neg (mt ec.mp hh), hno]
    simp only [Bool.false_and, Bool.and_false]
    rw [if_neg (by decide)]
    refine (bind_eq D0).trans ((bind_eq F0).trans ?_)
    cases ok0 : okV 0 (avN gd 0) with
    | false => rw [if_pos z0]
    | true =>
    rw [if_neg z1]
    refine (bind_eq C2).trans ((bind_eq F1).trans ?_)
    cases ok1 : okV 1 (avN gd 1) with
    | false => rw [if_pos z0]
    | true =>
    rw [if_neg z1]
    refine (bind_eq D3).trans ((bind_eq F2).trans ?_)
    cases ok2 : okV 2 (avN gd 2) with
    | false => rw [if_pos z0]
    | true =>
    rw [if_neg z1]
    refine (bind_eq F3).trans ?_
    rw [if_pos rfl]
def ldF (N : Nat) (cm : Nat → Int32) (u : rs_FontShelf_removeFont) : Option rs_FontShelf_loadFont :=
  if (fd_FontShelf_fonts u.1) < (0 : Int32) then (some (fs_FontShelf_chosenKnown u.1 0, u.2.1, cm, u.2.2.2.2.2, u.2.2.2.2.1, u.2.2.1, u.2.2.2.1)) else (if (32 : Int32) ≤ (fd_FontShelf_fonts u.1) then (some (fs_FontShelf_chosenKnown u.1 0, u.2.1, cm, u.2.2.2.2.2, u.2.2.2.2.1, u.2.2.1, u.2.2.2.1)) else (if dk_in (fd_FontShelf_fonts u.1) 32 then (dk_let (upd u.2.1 (fd_FontShelf_fonts u.1).toNatClampNeg (fd_FontShelf_id u.1) : Nat → Int32) (fun f_11 => if dk_in (fd_FontShelf_fonts u.1) 32 then (dk_let (upd u.2.2.2.2.1 (fd_FontShelf_fonts u.1).toNatClampNeg 0 : Nat → Int32) (fun f_13 => if dk_cp (0 : Int32) ((fd_FontShelf_fonts u.1) * 7) (7 : Int32) 7 224 then (dk_let (va_cpy cm u.2.2.2.2.2 (0 : Int32).toNatClampNeg ((fd_FontShelf_fonts u.1) * 7).toNatClampNeg (7 : Int32).toNatClampNeg : Nat → Int32) (fun f_15 => some (fs_FontShelf_chosenKnown (fs_FontShelf_fonts u.1 ((fd_FontShelf_fonts u.1) + 1)) 0, f_11, cm, f_15, f_13, u.2.2.1, u.2.2.2.1))) else none)) else none)) else none))
theorem lf_eq (N : Nat) (o : ob_FontShelf) (gd ic cm ac pc gg gdt : Nat → Int32) (v1 : Int32) : ex_FontShelf_loadFont N o 4096 gd ic cm ac pc gg gdt v1 = (ex_FontShelf_slotOf N o ic (fd_FontShelf_id o)).bind (fun u_1 => if v1 < (14 : Int32) then (some (o, ic, cm, ac, pc, gg, gdt)) else (if (nI 4096) < (14 : Int32) then (some (o, ic, cm, ac, pc, gg, gdt)) else ((ex_FontShelf_readAttributes N o 4096 gd cm).bind (fun u_4 => if u_4.2 = (0 : Int32) then (some (o, ic, u_4.1, ac, pc, gg, gdt)) else (if (0 : Int32) ≤ u_1 then ((ex_FontShelf_removeFont N o ic gg gdt pc ac u_1).bind (ldF N u_4.1)) else (if (fd_FontShelf_fonts o) < (32 : Int32) then ((ex_FontShelf_removeFont N o ic gg gdt pc ac u_1).bind (ldF N u_4.1)) else (some (o, ic, u_4.1, ac, pc, gg, gdt)))))))) := rfl
theorem ok_av {gd : Nat → Int32} {a m : Nat} {gs : Nat → Int32} (hd : dtR m gd gs) (hm : 14 ≤ m) (ha : a < 7) (h : okV a (avN gd a) = true) : okA a (iI (avN gd a)) := by
  have hb := av_bound hd hm ha
  have h := of_decide_eq_true h
  have hh := (lo_tab a ha).2.2
  unfold okA
  rw [iI_toInt (by omega)]
  exact h
/-- a font comes behind the others -/
theorem sl_append {F n u : Nat} {k : Int32} {ic pc ac gg gdt im pm am gm gs cm am' : Nat → Int32} (h : slK F n u ic pc ac gg gdt im pm am gm gs) (hF : F < 32) (hno : ∀ f, f < F → ic f ≠ k) (hok : ∀ a, a < 7 → okA a (cm a)) (ha : ∀ i, am' i = if 7 * F ≤ i ∧ i < 7 * F + 7 then cm (i - 7 * F) else am i) :
    slK (F + 1) n u (upd ic F k) (upd pc F 0) (va_cpy cm ac 0 (7 * F) 7) gg gdt (upd im F k) (upd pm F 0) am' gm gs := by
  obtain ⟨k1, k2, k3, k4, k5, k6, k7, k8, k9, k10, k11, k12⟩ := h
  have hv : ∀ i, va_cpy cm ac 0 (7 * F) 7 i = if 7 * F ≤ i ∧ i < 7 * F + 7 then cm (i - 7 * F) else ac i := fun i => by
    unfold va_cpy
    by_cases q : 7 * F ≤ i ∧ i < 7 * F + 7
    · rw [if_pos q, if_pos q, Nat.zero_add]
    · rw [if_neg q, if_neg q]
  refine ⟨by omega, agree_push k2 k, agree_push k3 0, fun i hi => ?_, fun i hi => ?_, fun f a hf ha' => ?_, fun f f' hf hf' he => ?_, k8, k9, k10, k11, fun i hi => ?_⟩
  · by_cases q : i = F
    · subst q; rw [pk_us]; exact Or.inl rfl
    · rw [pk_un q]; exact k4 i (by omega)
  · rw [hv, ha]
    by_cases q : 7 * F ≤ i ∧ i < 7 * F + 7
    · rw [if_pos q, if_pos q]
    · rw [if_neg q, if_neg q]; exact k5 i (by omega)
  · rw [hv]
    by_cases q : f = F
    · subst q
      have e : 7 * f + a - 7 * f = a := by omega
      rw [if_pos (by omega), e]; exact hok a ha'
    · rw [if_neg (by omega)]; exact k6 f a (by omega) ha'
  · by_cases q : f = F
    · subst q
      by_cases q2 : f' = f
      · exact q2.symm
      · rw [pk_us, pk_un q2] at he; exact absurd he.symm (hno f' (by omega))
    · rw [pk_un q] at he
      by_cases q2 : f' = F
      · subst q2; rw [pk_us] at he; exact absurd he (hno f (by omega))
      · rw [pk_un q2] at he; exact k7 f f' (by omega) (by omega) he
  · obtain ⟨f, hf, hfe⟩ := k12 i hi
    exact ⟨f, by omega, by rw [pk_un (by omega)]; exact hfe⟩
theorem ms_latt {F : Nat} {o : ob_mShelf} {dr am : Nat → Int32} (ho : fd_mShelf_fonts o = nI F) (hF : F < 33) : ∀ (w fu k : Nat) (g : Nat → Int32), 7 - k = w → w < fu → k ≤ 7 → (∀ i, g i = if 7 * F ≤ i ∧ i < 7 * F + k then dr (i - 7 * F) else am i) →
    ∃ g', lp_mShelf_header_74 o 7 dr fu (nI k) g = some g' ∧ ∀ i, g' i = if 7 * F ≤ i ∧ i < 7 * F + 7 then dr (i - 7 * F) else am i := by
  intro w
  induction w with
  | zero =>
    intro fu k g hw hf hk h
    obtain ⟨fu, rfl⟩ : ∃ z, fu = z + 1 := ⟨fu - 1, by omega⟩
    have : k = 7 := by omega
    subst this
    exact ⟨g, by rw [lp_mShelf_header_74, if_pos (show (7 : Int32) ≤ nI 7 by decide)], h⟩
  | succ w ih =>
    intro fu k g hw hf hk h
    obtain ⟨fu, rfl⟩ : ∃ z, fu = z + 1 := ⟨fu - 1, by omega⟩
    have e2 : 7 * nI F + nI k = nI (7 * F + k) := by rw [nI_Lmul, nI_add]
    rw [lp_mShelf_header_74, if_neg (show ¬ (7 : Int32) ≤ nI k from nI_ge (b := 7) (by omega) (by omega)), ho, e2, if_pos (dk_in_nI (by omega) (by omega)), if_pos (dk_in_nI (by omega) (by omega)), nI_clamp (by omega), nI_clamp (by omega), dk_let, nI_1]
    refine ih fu (k + 1) _ (by omega) (by omega) (by omega) (fun i => ?_)
    by_cases q : i = 7 * F + k
    · subst q; rw [pk_us, if_pos (by omega)]; congr 1; omega
    · rw [pk_un q, h]
      by_cases q2 : 7 * F ≤ i ∧ i < 7 * F + k
      · rw [if_pos q2, if_pos (by omega)]
      · rw [if_neg q2, if_neg (by omega)]
theorem latt_c2 {nd : Nat} {dr : Nat → Int32} {u : rs_mShelf_goFont} : ∀ (f : Nat) (w : Int32) (g : Nat → Int32), lp_mShelf_header_74c2 nd dr u f w g = lp_mShelf_header_74 u.1 nd dr f w g := by
  intro f; induction f with
  | zero => intro w g; rfl
  | succ f ih => intro w g; rw [lp_mShelf_header_74c2, lp_mShelf_header_74]; simp only [ih]
theorem ld_tail {N F n u : Nat} {o : ob_FontShelf} {cm ic pc ac gg gdt : Nat → Int32} (hF : F < 32) (ho : fd_FontShelf_fonts o = nI F) : ldF N cm (o, ic, gg, gdt, pc, ac) = some (fs_FontShelf_chosenKnown (fs_FontShelf_fonts o (nI (F + 1))) 0, upd ic F (fd_FontShelf_id o), cm, va_cpy cm ac 0 (7 * F) 7, upd pc F 0, gg, gdt) := by
  unfold ldF
  simp only []
  have hin : dk_in (nI F) 32 := dk_in_nI hF (by omega)
  have hcl : (nI F).toNatClampNeg = F := nI_clamp (by omega)
  have e7 : nI F * 7 = nI (7 * F) := by have h9 := nI_mul F 7; rw [Nat.mul_comm] at h9; exact h9
  have hcp : dk_cp (nI 0) (nI (7 * F)) (nI 7) 7 224 = True := dk_cpT (by omega) (by omega) (by omega) (by omega)
  have hcp' : dk_cp (0 : Int32) (nI (7 * F)) (7 : Int32) 7 224 := of_eq_true hcp
  rw [ho, if_neg (nI_pos (by omega)), if_neg (show ¬ (32 : Int32) ≤ nI F from nI_ge (b := 32) hF (by omega)), if_pos hin]
  simp only [dk_let]
  rw [if_pos hin, e7, if_pos hcp', hcl, nI_1]
  have k7 : (nI (7 * F)).toNatClampNeg = 7 * F := nI_clamp (by omega)
  rw [k7]; rfl
theorem sl_loadFont {N F n u m : Nat} {or : ob_Ref} {od : ob_mDesk} {o : ob_FontShelf} {om : ob_mShelf} {ic pc ac gg gdt im pm am gm gst cm dr gd gs : Nat → Int32} (hN : 30000 < N) (hd : dtR m gd gs) (h : slR F n u o om ic pc ac gg gdt im pm am gm gst) :
    ∃ F' n' u' o' om' ic' pc' ac' gg' gdt' im' pm' am' gm' gst' cm' dr', ex_FontShelf_loadFont N o 4096 gd ic cm ac pc gg gdt (nI m) = some (o', ic', cm', ac', pc', gg', gdt') ∧ ex_Ref_header N or od gs om 7 dr im am pm gm gst (nI m) = some (om', dr', im', am', pm', gm', gst') ∧ slR F' n' u' o' om' ic' pc' ac' gg' gdt' im' pm' am' gm' gst' ∧ (fd_FontShelf_chosenKnown o' = 0 ∨ (o' = o ∧ ic' = ic ∧ pc' = pc ∧ ac' = ac)) := by
  have h0 := h
  obtain ⟨hK, o1, o2, o3, m1, m2, m3, hi, hc⟩ := h
  have hm := hd.1
  have k1 := hK.1
  have hsl := sl_slot (N := N) (o := o) (om := om) (fd_FontShelf_id o) (by omega) hK o1 m1
  obtain ⟨zs, hzs⟩ : ∃ z, ex_FontShelf_slotOf N o ic (fd_FontShelf_id o) = some z := by
    rcases hsl with ⟨s, _, _, hs, _⟩ | ⟨_, hs, _⟩
    · exact ⟨_, hs⟩
    · exact ⟨_, hs⟩
  rw [lf_eq]
  have stay : ∀ cm2 : Nat → Int32, ∃ F' n' u' o' om' ic' pc' ac' gg' gdt' im' pm' am' gm' gst' cm' dr', some (o, ic, cm2, ac, pc, gg, gdt) = some (o', ic', cm', ac', pc', gg', gdt') ∧ some (om, dr, im, am, pm, gm, gst) = some (om', dr', im', am', pm', gm', gst') ∧ slR F' n' u' o' om' ic' pc' ac' gg' gdt' im' pm' am' gm' gst' ∧ (fd_FontShelf_chosenKnown o' = 0 ∨ (o' = o ∧ ic' = ic ∧ pc' = pc ∧ ac' = ac)) := fun cm2 => ⟨F, n, u, o, om, ic, pc, ac, gg, gdt, im, pm, am, gm, gst, cm2, dr, rfl, rfl, h0, Or.inr ⟨rfl, rfl, rfl, rfl⟩⟩
  by_cases q14 : m < 14
  · rw [hzs]
    simp only [Option.bind_some]
    rw [if_pos (show nI m < 14 from nI_lt (b := 14) q14 (by omega))]
    unfold ex_Ref_header
    rw [if_neg (show ¬ (14 : Int32) ≤ nI m from nI_ge (b := 14) q14 (by omega))]
    exact stay cm
  rw [rf_header hd (by omega)]
  obtain ⟨cm', hr1, hr2⟩ := rd_all (N := N) (o := o) (g := cm) (by omega) hd (show 14 ≤ m by omega)
  cases hok : okAll gd with
  | false =>
    rw [hok] at hr1
    rw [hzs]
    simp only [Option.bind_some]
    rw [if_neg (show ¬ nI m < 14 from nI_nlt (b := 14) (by omega) (by omega)), if_neg (show ¬ nI 4096 < 14 by decide), hr1]
    simp only [Option.bind_some]
    rw [if_pos (show nI (false).toNat = 0 from rfl), if_neg (by decide)]
    exact stay cm'
  | true =>
    rw [hok] at hr1
    have hall := (okAll_iff gd).mp hok
    have hcm := hr2 hok
    have hok' : ∀ a, a < 7 → okA a (cm' a) := fun a ha => by rw [hcm a ha]; exact ok_av hd (by omega) ha (hall a ha)
    have hdr : ∀ a, a < 7 → drN gd dr a = cm' a := fun a ha => by rw [hcm a ha]; exact drN_get gd dr a ha
    rw [if_pos rfl]
    unfold ex_mShelf_header
    rw [← hi]
    rcases hsl with ⟨s, hs1, hs2, hs3, hs4⟩ | ⟨hno, hs3, hs4⟩
    · obtain ⟨F, rfl⟩ : ∃ z, F = z + 1 := ⟨F - 1, by omega⟩
      obtain ⟨n', u', ic', pc', ac', gg', gdt', im', pm', am', gm', gst', e1, e2, e3, e4, e5, e6⟩ := sl_font (N := N) (o := o) (om := fs_mShelf_thrown om 0) (s := s) hN hK hs1 o1 o2 o3 m1 m2 m3
      have p1 : (0 : Int32) ≤ nI s := nI_le (a := 0) (by omega) (by omega)
      obtain ⟨am2, l1, l2⟩ := ms_latt (o := msO (fs_mShelf_thrown om 0) F n' u') (F := F) (dr := drN gd dr) (am := am') rfl (by omega) 7 N 0 am' rfl (by omega) (by omega) (fun i => by rw [if_neg (by omega)])
      have l1' : lp_mShelf_header_74 (msO (fs_mShelf_thrown om 0) F n' u') 7 (drN gd dr) N 0 am' = some am2 := l1
      have hno' : ∀ f, f < F → ic' f ≠ fd_FontShelf_id o := fun f hf hh => by
        rw [e4, shf_val hf] at hh
        have := hK.2.2.2.2.2.2.1 _ s (by split <;> omega) hs1 (hh.trans hs2.symm)
        split at this <;> omega
      have hap := sl_append (k := fd_FontShelf_id o) (cm := cm') (am' := am2) e3 (by omega) hno' hok' (fun i => by
        rw [l2]
        by_cases q : 7 * F ≤ i ∧ i < 7 * F + 7
        · rw [if_pos q, if_pos q]; exact hdr _ (by omega)
        · rw [if_neg q, if_neg q])
      refine ⟨F + 1, n', u', fs_FontShelf_chosenKnown (fs_FontShelf_fonts (fsO o F n' u') (nI (F + 1))) 0, fs_mShelf_loading (fs_mShelf_fonts (msO (fs_mShelf_thrown om 0) F n' u') (nI (F + 1))) 0, _, _, _, gg', gdt', _, _, am2, gm', gst', cm', drN gd dr, ?_, ?_, ⟨hap, rfl, rfl, rfl, rfl, rfl, rfl, hi, hc⟩, Or.inl rfl⟩
      · rw [hs3]
        simp only [Option.bind_some]
        rw [if_neg (show ¬ nI m < 14 from nI_nlt (b := 14) (by omega) (by omega)), if_neg (show ¬ nI 4096 < 14 by decide), hr1]
        simp only [Option.bind_some]
        rw [if_neg (show ¬ nI (true).toNat = 0 by decide), if_pos p1, e1]
        exact ld_tail (N := N) (n := n') (u := u') (o := fsO o F n' u') (by omega) rfl
      · rw [hs4]
        simp only [Option.bind_some]
        rw [if_pos p1, if_neg (nI_pos (by omega)), e2]
        simp only [Option.bind_some]
        have hfn : fd_mShelf_fonts (fs_mShelf_fonts (fs_mShelf_used (fs_mShelf_glyphs (fs_mShelf_thrown om 0) (nI n')) (nI u')) (nI F)) = nI F := rfl
        have hid : fd_mShelf_id (fs_mShelf_fonts (fs_mShelf_used (fs_mShelf_glyphs (fs_mShelf_thrown om 0) (nI n')) (nI u')) (nI F)) = fd_FontShelf_id o := hi.symm
        have hin : dk_in (nI F) 33 := dk_in_nI (by omega) (by omega)
        have hcl : (nI F).toNatClampNeg = F := nI_clamp (by omega)
        rw [hfn, hid, if_pos hin]
        simp only [dk_let]
        rw [if_pos hin, hcl, latt_c2]
        have l1'' : lp_mShelf_header_74 (fs_mShelf_fonts (fs_mShelf_used (fs_mShelf_glyphs (fs_mShelf_thrown om 0) (nI n')) (nI u')) (nI F)) 7 (drN gd dr) N 0 am' = some am2 := l1
        simp only []
        rw [l1'', nI_1]; rfl
    · have n1 : ¬ (0 : Int32) ≤ -1 := by decide
      have c1 : (-1 : Int32) < 0 := by decide
      have hrm : ex_FontShelf_removeFont N o ic gg gdt pc ac (-1) = some (o, ic, gg, gdt, pc, ac) := by unfold ex_FontShelf_removeFont; rw [if_pos c1]
      by_cases q32 : F = 32
      · refine ⟨F, n, u, o, fs_mShelf_thrown om 1, ic, pc, ac, gg, gdt, im, pm, am, gm, gst, cm', drN gd dr, ?_, ?_, ⟨hK, o1, o2, o3, m1, m2, m3, hi, hc⟩, Or.inr ⟨rfl, rfl, rfl, rfl⟩⟩
        · rw [hs3]
          simp only [Option.bind_some]
          rw [if_neg (show ¬ nI m < 14 from nI_nlt (b := 14) (by omega) (by omega)), if_neg (show ¬ nI 4096 < 14 by decide), hr1]
          simp only [Option.bind_some]
          rw [if_neg (show ¬ nI (true).toNat = 0 by decide), if_neg n1, o1, if_neg (show ¬ nI F < 32 from nI_nlt (b := 32) (by omega) (by omega))]
        · rw [hs4]
          simp only [Option.bind_some]
          rw [if_neg n1, m1, if_pos (show nI F = 32 by rw [q32]; rfl)]
          rfl
      · obtain ⟨am2, l1, l2⟩ := ms_latt (o := om) (F := F) (dr := drN gd dr) (am := am) m1 (by omega) 7 N 0 am rfl (by omega) (by omega) (fun i => by rw [if_neg (by omega)])
        have l1' : lp_mShelf_header_74 om 7 (drN gd dr) N 0 am = some am2 := l1
        have hap := sl_append (k := fd_FontShelf_id o) (cm := cm') (am' := am2) hK (by omega) hno hok' (fun i => by
          rw [l2]
          by_cases q : 7 * F ≤ i ∧ i < 7 * F + 7
          · rw [if_pos q, if_pos q]; exact hdr _ (by omega)
          · rw [if_neg q, if_neg q])
        refine ⟨F + 1, n, u, fs_FontShelf_chosenKnown (fs_FontShelf_fonts o (nI (F + 1))) 0, fs_mShelf_loading (fs_mShelf_fonts (fs_mShelf_thrown om 0) (nI (F + 1))) 0, _, _, _, gg, gdt, _, _, am2, gm, gst, cm', drN gd dr, ?_, ?_, ⟨hap, rfl, o2, o3, rfl, m2, m3, hi, hc⟩, Or.inl rfl⟩
        · rw [hs3]
          simp only [Option.bind_some]
          rw [if_neg (show ¬ nI m < 14 from nI_nlt (b := 14) (by omega) (by omega)), if_neg (show ¬ nI 4096 < 14 by decide), hr1]
          simp only [Option.bind_some]
          rw [if_neg (show ¬ nI (true).toNat = 0 by decide), if_neg n1, o1, if_pos (show nI F < 32 from nI_lt (b := 32) (by omega) (by omega)), hrm]
          exact ld_tail (N := N) (n := n) (u := u) (o := o) (by omega) o1
        · rw [hs4]
          simp only [Option.bind_some]
          have hin : dk_in (nI F) 33 := dk_in_nI (by omega) (by omega)
          have hcl : (nI F).toNatClampNeg = F := nI_clamp (by omega)
          rw [if_neg n1, m1, if_neg (show ¬ nI F = 32 from mt (nI_eq (b := 32) (by omega) (by omega)).mp q32), if_pos c1, if_pos hin]
          simp only [dk_let]
          rw [if_pos hin, hcl, l1', nI_1]
          rfl
/-- the wishes and pins of both sides -/
def wsR (wc pnc wm pnm : Nat → Int32) : Prop := agree 14 wc wm ∧ agree 2 pnc pnm ∧ (∀ w a, w < 2 → a < 7 → okA a (wc (7 * w + a))) ∧ (∀ w, w < 2 → pnc w = -1 ∨ ∃ i : Nat, i ≤ 32767 ∧ pnc w = nI i)
theorem okA_iI {a : Nat} {z : Int} (ha : a < 7) (hz : -2147483648 ≤ z ∧ z < 2147483648) (h : okV a z = true) : okA a (iI z) := by
  have h := of_decide_eq_true h
  unfold okA
  rw [iI_toInt hz]
  exact h
theorem sl_wish {N w a : Nat} {z : Int} {o : ob_FontShelf} {om : ob_mShelf} {wc pnc wm pnm dr : Nat → Int32} (hw : w < 2) (ha : a < 7) (hz : -2147483648 ≤ z ∧ z < 2147483648) (h : wsR wc pnc wm pnm) :
    ∃ o' wc' pnc' wm' pnm' c, ex_FontShelf_wish N o pnc wc (nI w) (nI a) (lI z) = some (o', pnc', wc') ∧ ex_mShelf_attribute N om 7 dr 14 wm 2 pnm 1 (nI w) (nI a) (iI z) = some (fs_mShelf_thrown om 0, dr, wm', pnm', c) ∧ wsR wc' pnc' wm' pnm' ∧ ((o' = o ∧ wc' = wc ∧ pnc' = pnc) ∨ o' = fs_FontShelf_chosenKnown o 0) := by
  obtain ⟨h1, h2, h3, h4⟩ := h
  unfold ex_FontShelf_wish ex_mShelf_attribute
  rw [can_be ha (by omega), m_fits ha hz]
  simp only [Option.bind_some]
  cases hok : okV a z with
  | false =>
    rw [if_pos (show nI (false).toNat = 0 from rfl), if_pos (show nI (false).toNat = 0 from rfl)]
    exact ⟨o, wc, pnc, wm, pnm, 0, rfl, rfl, ⟨h1, h2, h3, h4⟩, Or.inl ⟨rfl, rfl, rfl⟩⟩
  | true =>
    have e7 : nI w * 7 + nI a = nI (7 * w + a) := by have h9 := nI_mul w 7; rw [Nat.mul_comm] at h9; rw [show nI w * 7 = nI (7 * w) from h9, nI_add]
    have e7' : 7 * nI w + nI a = nI (7 * w + a) := by rw [nI_Lmul, nI_add]
    have i14 : dk_in (nI (7 * w + a)) 14 := dk_in_nI (by omega) (by omega)
    have i2 : dk_in (nI w) 2 := dk_in_nI hw (by omega)
    have c1 : (nI (7 * w + a)).toNatClampNeg = 7 * w + a := nI_clamp (by omega)
    have c2 : (nI w).toNatClampNeg = w := nI_clamp (by omega)
    have hnew : wsR (upd wc (7 * w + a) (iI z)) (upd pnc w (-1)) (upd wm (7 * w + a) (iI z)) (upd pnm w (-1)) := by
      refine ⟨agree_upd h1 _ _, agree_upd h2 _ _, fun w' a' hw' ha' => ?_, fun w' hw' => ?_⟩
      · by_cases q : 7 * w' + a' = 7 * w + a
        · rw [q, pk_us]
          have : a' = a := by omega
          subst this; exact okA_iI ha hz hok
        · rw [pk_un q]; exact h3 w' a' hw' ha'
      · by_cases q : w' = w
        · subst q; rw [pk_us]; exact Or.inl rfl
        · rw [pk_un q]; exact h4 w' hw'
    refine ⟨fs_FontShelf_chosenKnown o 0, _, _, _, _, 1, ?_, ?_, hnew, Or.inr rfl⟩
    · rw [if_neg (show ¬ nI (true).toNat = 0 by decide), if_neg (nI_pos (by omega)), if_neg (show ¬ (2 : Int32) ≤ nI w from nI_ge (b := 2) hw (by omega)), e7, if_pos i14]
      simp only [dk_let]
      rw [if_pos i2, c1, c2, lI_i]
    · rw [if_neg (show ¬ nI (true).toNat = 0 by decide), if_neg (show ¬ (1 : Int32) = 0 by decide), e7']
      have : w = 0 ∨ w = 1 := by omega
      rcases this with rfl | rfl
      · rw [if_pos (show nI 0 = 0 from rfl), if_neg (show ¬ (1 : Int32) = 0 by decide), if_pos i14]
        simp only [dk_let]
        rw [if_pos i2, c1, c2]
      · rw [if_neg (show ¬ nI 1 = 0 by decide), if_pos (show nI 1 = 1 from rfl), if_neg (show ¬ (1 : Int32) = 0 by decide), if_pos i14]
        simp only [dk_let]
        rw [if_pos i2, c1, c2]
theorem sl_hand0 {N i : Nat} {o : ob_FontShelf} {om : ob_mShelf} (hi : i ≤ 32767) : ex_FontShelf_setId N o (nI i) = some (fs_FontShelf_id o (nI i)) ∧ ex_mShelf_hand N om 0 (nI i) = some (fs_mShelf_loading (fs_mShelf_id (fs_mShelf_thrown om 0) (nI i)) 0, 1) := by
  refine ⟨rfl, ?_⟩
  unfold ex_mShelf_hand
  rw [if_neg (nI_pos (by omega)), if_pos rfl, if_pos (show nI i ≤ 32767 from nI_le (b := 32767) hi (by omega)), if_pos rfl]
  exact if_pos rfl
theorem sl_hand1 {N i : Nat} {o : ob_FontShelf} {om : ob_mShelf} (hi : i ≤ 32767) (hc : fd_FontShelf_code o = fd_mShelf_code om) : ∃ o' om' c, ex_FontShelf_setCode N o (nI i) = some o' ∧ ex_mShelf_hand N om 1 (nI i) = some (om', c) ∧ fd_FontShelf_code o' = fd_mShelf_code om' ∧ ((o' = o ∧ om' = fs_mShelf_thrown om 0) ∨ (o' = fs_FontShelf_code o (nI i) ∧ om' = fs_mShelf_loading (fs_mShelf_code (fs_mShelf_thrown om 0) (nI i)) 0)) := by
  unfold ex_FontShelf_setCode ex_mShelf_hand
  rw [if_neg (nI_pos (by omega)), if_neg (show ¬ (1 : Int32) = 0 by decide)]
  by_cases q : i ≤ 255
  · rw [if_neg (show ¬ (255 : Int32) < nI i from nI_nlt (a := 255) q (by omega)), if_pos (show nI i ≤ 255 from nI_le (b := 255) q (by omega))]
    simp only [show ¬ ((1 : Int32) = 0) by decide, if_false]
    exact ⟨_, _, _, rfl, rfl, rfl, Or.inr ⟨rfl, rfl⟩⟩
  · rw [if_pos (show (255 : Int32) < nI i from nI_lt (a := 255) (by omega) (by omega)), if_neg (show ¬ nI i ≤ 255 from nI_ge (a := 255) (by omega) (by omega))]
    exact ⟨_, _, _, rfl, rfl, hc, Or.inl ⟨rfl, rfl⟩⟩
theorem ms_lpin {F s w : Nat} {am : Nat → Int32} (hs : s < 33) (hw : w < 2) (wm : Nat → Int32) : ∀ (m fu k : Nat) (g : Nat → Int32), 7 - k = m → m < fu → k ≤ 7 → (∀ i, g i = if 7 * w ≤ i ∧ i < 7 * w + k then am (7 * s + (i - 7 * w)) else wm i) →
    ∃ g', lp_mShelf_pin_36 14 am (nI w) (nI s) fu (nI k) g = some g' ∧ ∀ i, g' i = if 7 * w ≤ i ∧ i < 7 * w + 7 then am (7 * s + (i - 7 * w)) else wm i := by
  intro m
  induction m with
  | zero =>
    intro fu k g hm hf hk h
    obtain ⟨fu, rfl⟩ : ∃ z, fu = z + 1 := ⟨fu - 1, by omega⟩
    have : k = 7 := by omega
    subst this
    exact ⟨g, by rw [lp_mShelf_pin_36, if_pos (show (7 : Int32) ≤ nI 7 by decide)], h⟩
  | succ m ih =>
    intro fu k g hm hf hk h
    obtain ⟨fu, rfl⟩ : ∃ z, fu = z + 1 := ⟨fu - 1, by omega⟩
    have e1 : 7 * nI s + nI k = nI (7 * s + k) := by rw [nI_Lmul, nI_add]
    have e2 : 7 * nI w + nI k = nI (7 * w + k) := by rw [nI_Lmul, nI_add]
    rw [lp_mShelf_pin_36, if_neg (show ¬ (7 : Int32) ≤ nI k from nI_ge (b := 7) (by omega) (by omega)), e1, e2, if_pos (dk_in_nI (by omega) (by omega)), if_pos (dk_in_nI (by omega) (by omega)), nI_clamp (by omega), nI_clamp (by omega), dk_let, nI_1]
    refine ih fu (k + 1) _ (by omega) (by omega) (by omega) (fun i => ?_)
    by_cases q : i = 7 * w + k
    · subst q; rw [pk_us, if_pos (by omega)]; congr 1; omega
    · rw [pk_un q, h]
      by_cases q2 : 7 * w ≤ i ∧ i < 7 * w + k
      · rw [if_pos q2, if_pos (by omega)]
      · rw [if_neg q2, if_neg (by omega)]
theorem sl_pin {N F n u w i : Nat} {o : ob_FontShelf} {om : ob_mShelf} {ic pc ac gg gdt im pm am gm gst wc pnc wm pnm : Nat → Int32} (hN : 1000 < N) (hw : w < 2) (hi : i ≤ 32767) (hK : slK F n u ic pc ac gg gdt im pm am gm gst) (o1 : fd_FontShelf_fonts o = nI F) (m1 : fd_mShelf_fonts om = nI F) (h : wsR wc pnc wm pnm) :
    ∃ o' wc' pnc' wm' pnm' c, ex_FontShelf_pin N o ic pnc ac wc (nI w) (nI i) = some (o', pnc', wc') ∧ ex_mShelf_pin N om im 2 pnm 14 wm am (nI w) (nI i) = some (fs_mShelf_thrown om 0, pnm', wm', c) ∧ wsR wc' pnc' wm' pnm' ∧ ((o' = o ∧ wc' = wc ∧ pnc' = pnc) ∨ o' = fs_FontShelf_chosenKnown o 0) := by
  have h0 := h
  obtain ⟨h1, h2, h3, h4⟩ := h
  have k1 := hK.1
  have k5 := hK.2.2.2.2.1
  have k6 := hK.2.2.2.2.2.1
  unfold ex_FontShelf_pin ex_mShelf_pin
  rcases sl_slot (N := N) (o := o) (om := fs_mShelf_thrown om 0) (nI i) hN hK o1 m1 with ⟨s, hs1, hs2, hs3, hs4⟩ | ⟨hno, hs3, hs4⟩
  · obtain ⟨wm', l1, l2⟩ := ms_lpin (F := F) (s := s) (w := w) (am := am) (by omega) hw wm 7 N 0 wm rfl (by omega) (by omega) (fun i => by rw [if_neg (by omega)])
    have l1' : lp_mShelf_pin_36 14 am (nI w) (nI s) N 0 wm = some wm' := l1
    have i2 : dk_in (nI w) 2 := dk_in_nI hw (by omega)
    have c2 : (nI w).toNatClampNeg = w := nI_clamp (by omega)
    have es : nI s * 7 = nI (7 * s) := by have h9 := nI_mul s 7; rw [Nat.mul_comm] at h9; exact h9
    have ew : nI w * 7 = nI (7 * w) := by have h9 := nI_mul w 7; rw [Nat.mul_comm] at h9; exact h9
    have hcp : dk_cp (nI (7 * s)) (nI (7 * w)) (nI 7) 224 14 = True := dk_cpT (by omega) (by omega) (by omega) (by omega)
    have hcp' : dk_cp (nI (7 * s)) (nI (7 * w)) (7 : Int32) 224 14 := of_eq_true hcp
    have hv : ∀ j, va_cpy ac wc (7 * s) (7 * w) 7 j = if 7 * w ≤ j ∧ j < 7 * w + 7 then ac (7 * s + (j - 7 * w)) else wc j := fun j => rfl
    have hnew : wsR (va_cpy ac wc (7 * s) (7 * w) 7) (upd pnc w (nI i)) wm' (upd pnm w (nI i)) := by
      refine ⟨fun j hj => ?_, agree_upd h2 _ _, fun w' a' hw' ha' => ?_, fun w' hw' => ?_⟩
      · rw [hv, l2]
        by_cases q : 7 * w ≤ j ∧ j < 7 * w + 7
        · rw [if_pos q, if_pos q]; exact k5 _ (by omega)
        · rw [if_neg q, if_neg q]; exact h1 j hj
      · rw [hv]
        by_cases q : w' = w
        · subst q
          have e : 7 * s + (7 * w' + a' - 7 * w') = 7 * s + a' := by omega
          rw [if_pos (by omega), e]; exact k6 s a' hs1 ha'
        · rw [if_neg (by omega)]; exact h3 w' a' hw' ha'
      · by_cases q : w' = w
        · subst q; rw [pk_us]; exact Or.inr ⟨i, hi, rfl⟩
        · rw [pk_un q]; exact h4 w' hw'
    refine ⟨fs_FontShelf_chosenKnown o 0, _, _, _, _, 1, ?_, ?_, hnew, Or.inr rfl⟩
    · rw [hs3]
      simp only [Option.bind_some]
      rw [if_neg (nI_pos (by omega)), if_neg (nI_pos (by omega)), if_neg (show ¬ (2 : Int32) ≤ nI w from nI_ge (b := 2) hw (by omega)), if_pos i2, es, ew]
      simp only [dk_let]
      rw [if_pos hcp', c2]
      show some (fs_FontShelf_chosenKnown o 0, upd pnc w (nI i), va_cpy ac wc (nI (7 * s)).toNatClampNeg (nI (7 * w)).toNatClampNeg (nI 7).toNatClampNeg) = _
      rw [nI_clamp (show 7 * s < 2 ^ 31 by omega), nI_clamp (show 7 * w < 2 ^ 31 by omega), nI_clamp (show 7 < 2 ^ 31 by omega)]
    · rw [hs4]
      simp only [Option.bind_some]
      rw [if_neg (nI_pos (by omega))]
      have : w = 0 ∨ w = 1 := by omega
      rcases this with rfl | rfl
      · rw [if_pos (show nI 0 = 0 from rfl), if_pos i2, l1', c2]; rfl
      · rw [if_neg (show ¬ nI 1 = 0 by decide), if_pos (show nI 1 = 1 from rfl), if_pos i2, l1', c2]; rfl
  · rw [hs3, hs4]
    simp only [Option.bind_some]
    rw [if_pos (show (-1 : Int32) < 0 by decide), if_pos (show (-1 : Int32) < 0 by decide)]
    exact ⟨o, wc, pnc, wm, pnm, 0, rfl, rfl, h0, Or.inl ⟨rfl, rfl, rfl⟩⟩
/-- the fonts that are left -/
def lfR (F : Nat) (L : Nat → Bool) (g : Nat → Int32) : Prop := ∀ i, i < F → g i = nI (L i).toNat
def anyL (L f : Nat → Bool) : Nat → Bool
  | 0 => false
  | n + 1 => anyL L f n || (L n && f n)
def strL (F : Nat) (L f : Nat → Bool) : Nat → Bool := fun i => L i && (!anyL L f F || f i)
theorem bt_or (a b : Bool) : nI a.toNat ||| nI b.toNat = nI (a || b).toNat := by cases a <;> cases b <;> rfl
theorem bt_0 (a : Bool) : nI a.toNat = 0 ↔ a = false := by cases a <;> decide
theorem bt_bool (a : Bool) : dk_bool (nI a.toNat) := by cases a; exact Or.inl rfl; exact Or.inr rfl
theorem fs_att {N f a : Nat} {o : ob_FontShelf} {ac : Nat → Int32} (hf : f < 32) (ha : a < 7) : ex_FontShelf_attribute N o ac (nI f) (nI a) = some (ac (7 * f + a)) := by
  have e : nI f * 7 + nI a = nI (7 * f + a) := by have h9 := nI_mul f 7; rw [Nat.mul_comm] at h9; rw [show nI f * 7 = nI (7 * f) from h9, nI_add]
  unfold ex_FontShelf_attribute
  rw [e, if_neg (nI_pos (by omega)), if_neg (show ¬ (224 : Int32) ≤ nI (7 * f + a) from nI_ge (b := 224) (by omega) (by omega)), if_pos (dk_in_nI (by omega) (by omega)), nI_clamp (by omega)]
theorem kp_any {N F a : Nat} {v : Int32} {o : ob_FontShelf} {lc ac : Nat → Int32} {L : Nat → Bool} (hF : F ≤ 32) (ha : a < 7) (ho : fd_FontShelf_fonts o = nI F) (hl : lfR F L lc) : ∀ (m fu k : Nat), F - k = m → m < fu → k ≤ F → lp_FontShelf_keepThose_5 N o lc ac (nI a) v fu (nI k) (nI (anyL L (fun i => decide (ac (7 * i + a) = v)) k).toNat) = some (nI (anyL L (fun i => decide (ac (7 * i + a) = v)) F).toNat) := by
  intro m
  induction m with
  | zero =>
    intro fu k hm hf hk
    obtain ⟨fu, rfl⟩ : ∃ z, fu = z + 1 := ⟨fu - 1, by omega⟩
    have : k = F := by omega
    subst this
    rw [lp_FontShelf_keepThose_5, ho, if_pos (nI_le (Nat.le_refl _) (by omega))]
  | succ m ih =>
    intro fu k hm hf hk
    obtain ⟨fu, rfl⟩ : ∃ z, fu = z + 1 := ⟨fu - 1, by omega⟩
    have hr := ih fu (k + 1) (by omega) (by omega) (by omega)
    have hcl : (nI k).toNatClampNeg = k := nI_clamp (by omega)
    have e0 : ∀ b : Bool, nI b.toNat ||| 0 = nI (b || false).toNat := fun b => bt_or b false
    have e1 : ∀ b : Bool, nI b.toNat ||| 1 = nI (b || true).toNat := fun b => bt_or b true
    rw [lp_FontShelf_keepThose_5, ho, if_neg (nI_ge (show k < F by omega) (by omega)), if_neg (show ¬ (32 : Int32) ≤ nI k from nI_ge (b := 32) (by omega) (by omega)), if_pos (dk_in_nI (by omega) (by omega)), nI_1, e0, e1, fs_att (by omega) ha]
    simp only [Option.bind_some]
    have hs : anyL L (fun i => decide (ac (7 * i + a) = v)) (k + 1) = (anyL L (fun i => decide (ac (7 * i + a) = v)) k || (L k && decide (ac (7 * k + a) = v))) := rfl
    rw [hs] at hr
    cases hL : L k with
    | false =>
      rw [hL, Bool.false_and] at hr
      rw [if_pos (by rw [hcl, hl k (by omega), hL]; rfl)]; exact hr
    | true =>
      rw [hL, Bool.true_and] at hr
      rw [if_neg (by rw [hcl, hl k (by omega), hL]; decide)]
      by_cases q : ac (7 * k + a) = v
      · rw [decide_eq_true q] at hr
        rw [if_pos q]; exact hr
      · rw [decide_eq_false q] at hr
        rw [if_neg q]; exact hr
theorem kp_lset {N F a : Nat} {v : Int32} {o : ob_FontShelf} {lc ac : Nat → Int32} {L : Nat → Bool} (hF : F ≤ 32) (ha : a < 7) (ho : fd_FontShelf_fonts o = nI F) (hl : lfR F L lc) : ∀ (m fu k : Nat) (g : Nat → Int32), F - k = m → m < fu → k ≤ F → (∀ i, i < F → g i = nI (if i < k then (L i && decide (ac (7 * i + a) = v)) else L i).toNat) →
    ∃ g', lp_FontShelf_keepThose_62c2 N o ac (nI a) v 1 fu (nI k) g = some g' ∧ ∀ i, i < F → g' i = nI (L i && decide (ac (7 * i + a) = v)).toNat := by
  intro m
  induction m with
  | zero =>
    intro fu k g hm hf hk hg
    obtain ⟨fu, rfl⟩ : ∃ z, fu = z + 1 := ⟨fu - 1, by omega⟩
    refine ⟨g, by rw [lp_FontShelf_keepThose_62c2, ho, if_pos (nI_le (show F ≤ k by omega) (by omega))], fun i hi => ?_⟩
    rw [hg i hi, if_pos (by omega)]
  | succ m ih =>
    intro fu k g hm hf hk hg
    obtain ⟨fu, rfl⟩ : ∃ z, fu = z + 1 := ⟨fu - 1, by omega⟩
    have hcl : (nI k).toNatClampNeg = k := nI_clamp (by omega)
    have hin : dk_in (nI k) 32 := dk_in_nI (by omega) (by omega)
    have hgk : g k = nI (L k).toNat := by rw [hg k (by omega), if_neg (by omega)]
    have x1 : vp_nar .boolean (nI (L k).toNat &&& 1) = nI (L k && true).toNat := by cases L k <;> rfl
    have x0 : vp_nar .boolean (nI (L k).toNat &&& 0) = nI (L k && false).toNat := by cases L k <;> rfl
    have nxt : ∀ b : Bool, b = decide (ac (7 * k + a) = v) → ∀ i, i < F → upd g k (nI (L k && b).toNat) i = nI (if i < k + 1 then (L i && decide (ac (7 * i + a) = v)) else L i).toNat := by
      intro b hb i hi
      by_cases q : i = k
      · subst q; rw [pk_us, if_pos (by omega), hb]
      · rw [pk_un q, hg i hi]
        by_cases q2 : i < k
        · rw [if_pos q2, if_pos (by omega)]
        · rw [if_neg q2, if_neg (by omega)]
    rw [lp_FontShelf_keepThose_62c2, ho, if_neg (nI_ge (show k < F by omega) (by omega)), if_neg (show ¬ (32 : Int32) ≤ nI k from nI_ge (b := 32) (by omega) (by omega)), if_neg (show ¬ (1 : Int32) = 0 by decide), if_pos hin, fs_att (by omega) ha]
    simp only [Option.bind_some]
    rw [if_pos hin, if_pos hin, hcl, hgk, x1, x0, nI_1]
    simp only [dk_let]
    by_cases q : ac (7 * k + a) = v
    · rw [if_pos q]
      exact ih fu (k + 1) _ (by omega) (by omega) (by omega) (nxt true (decide_eq_true q).symm)
    · rw [if_neg q]
      exact ih fu (k + 1) _ (by omega) (by omega) (by omega) (nxt false (decide_eq_false q).symm)
theorem kp_c {N F a : Nat} {v : Int32} {o : ob_FontShelf} {lc ac : Nat → Int32} {L : Nat → Bool} (hN : 1000 < N) (hF : F ≤ 32) (ha : a < 7) (ho : fd_FontShelf_fonts o = nI F) (hl : lfR F L lc) :
    ∃ lc', ex_FontShelf_keepThose N o lc ac (nI a) v = some (lc', nI (anyL L (fun i => decide (ac (7 * i + a) = v)) F).toNat) ∧ lfR F (strL F L (fun i => decide (ac (7 * i + a) = v))) lc' := by
  unfold ex_FontShelf_keepThose
  have h1 : lp_FontShelf_keepThose_5 N o lc ac (nI a) v N 0 0 = some (nI (anyL L (fun i => decide (ac (7 * i + a) = v)) F).toNat) := kp_any hF ha ho hl F N 0 rfl (by omega) (by omega)
  rw [h1]
  simp only [Option.bind_some]
  cases hq : anyL L (fun i => decide (ac (7 * i + a) = v)) F with
  | false =>
    obtain ⟨N', rfl⟩ : ∃ z, N = z + 1 := ⟨N - 1, by omega⟩
    have h2 : lp_FontShelf_keepThose_62c2 (N' + 1) o ac (nI a) v (nI (false).toNat) (N' + 1) 0 lc = some lc := by
      rw [lp_FontShelf_keepThose_62c2, if_pos (show nI (false).toNat = 0 from rfl), ite_self, ite_self]
    rw [h2]
    simp only [Option.bind_some]
    refine ⟨lc, by rw [if_pos (bt_bool false)], fun i hi => ?_⟩
    unfold strL
    rw [hq, hl i hi]; simp
  | true =>
    obtain ⟨lc', e1, e2⟩ := kp_lset (N := N) (v := v) (ac := ac) hF ha ho hl F N 0 lc rfl (by omega) (by omega) (fun i hi => by rw [if_neg (by omega)]; exact hl i hi)
    have e1' : lp_FontShelf_keepThose_62c2 N o ac (nI a) v (nI (true).toNat) N 0 lc = some lc' := e1
    rw [e1']
    simp only [Option.bind_some]
    refine ⟨lc', by rw [if_pos (bt_bool true)], fun i hi => ?_⟩
    unfold strL
    rw [hq, e2 i hi]; simp
theorem st_any {F a : Nat} {v : Int32} {o : ob_mShelf} {lm am : Nat → Int32} {L : Nat → Bool} (hF : F ≤ 32) (ha : a < 7) (ho : fd_mShelf_fonts o = nI F) (hl : lfR F L lm) : ∀ (m fu k : Nat), F - k = m → m < fu → k ≤ F → lp_mShelf_strike_5 o lm am (nI a) v fu (nI k) (nI (anyL L (fun i => decide (am (7 * i + a) = v)) k).toNat) = some (nI (anyL L (fun i => decide (am (7 * i + a) = v)) F).toNat) := by
  intro m
  induction m with
  | zero =>
    intro fu k hm hf hk
    obtain ⟨fu, rfl⟩ : ∃ z, fu = z + 1 := ⟨fu - 1, by omega⟩
    have : k = F := by omega
    subst this
    rw [lp_mShelf_strike_5, ho, if_pos (nI_le (Nat.le_refl _) (by omega))]
  | succ m ih =>
    intro fu k hm hf hk
    obtain ⟨fu, rfl⟩ : ∃ z, fu = z + 1 := ⟨fu - 1, by omega⟩
    have hr := ih fu (k + 1) (by omega) (by omega) (by omega)
    have hcl : (nI k).toNatClampNeg = k := nI_clamp (by omega)
    have e7 : 7 * nI k + nI a = nI (7 * k + a) := by rw [nI_Lmul, nI_add]
    have hca : (nI (7 * k + a)).toNatClampNeg = 7 * k + a := nI_clamp (by omega)
    have hs : anyL L (fun i => decide (am (7 * i + a) = v)) (k + 1) = (anyL L (fun i => decide (am (7 * i + a) = v)) k || (L k && decide (am (7 * k + a) = v))) := rfl
    rw [hs] at hr
    rw [lp_mShelf_strike_5, ho, if_neg (nI_ge (show k < F by omega) (by omega)), nI_1, e7]
    cases hA : anyL L (fun i => decide (am (7 * i + a) = v)) k with
    | true =>
      rw [hA, Bool.true_or] at hr
      rw [if_neg (show ¬ nI (true).toNat = 0 by decide)]; exact hr
    | false =>
      rw [hA, Bool.false_or] at hr
      rw [if_pos (show nI (false).toNat = 0 from rfl), if_pos (dk_in_nI (by omega) (by omega))]
      cases hL : L k with
      | false =>
        rw [hL, Bool.false_and] at hr
        rw [if_pos (by rw [hcl, hl k (by omega), hL]; rfl)]; exact hr
      | true =>
        rw [hL, Bool.true_and] at hr
        rw [if_neg (by rw [hcl, hl k (by omega), hL]; decide), if_pos (dk_in_nI (by omega) (by omega))]
        by_cases q : am (7 * k + a) = v
        · rw [decide_eq_true q] at hr
          rw [if_pos (by rw [hca]; exact q)]; exact hr
        · rw [decide_eq_false q] at hr
          rw [if_neg (by rw [hca]; exact q)]; exact hr
theorem st_lset {F a : Nat} {v : Int32} {o : ob_mShelf} {am : Nat → Int32} {L : Nat → Bool} (hF : F ≤ 32) (ha : a < 7) (ho : fd_mShelf_fonts o = nI F) : ∀ (m fu k : Nat) (g : Nat → Int32), F - k = m → m < fu → k ≤ F → (∀ i, i < F → g i = nI (if i < k then (L i && decide (am (7 * i + a) = v)) else L i).toNat) →
    ∃ g', lp_mShelf_strike_59c2 o am (nI a) v 1 fu (nI k) g = some g' ∧ ∀ i, i < F → g' i = nI (L i && decide (am (7 * i + a) = v)).toNat := by
  intro m
  induction m with
  | zero =>
    intro fu k g hm hf hk hg
    obtain ⟨fu, rfl⟩ : ∃ z, fu = z + 1 := ⟨fu - 1, by omega⟩
    refine ⟨g, by rw [lp_mShelf_strike_59c2, ho, if_pos (nI_le (show F ≤ k by omega) (by omega))], fun i hi => ?_⟩
    rw [hg i hi, if_pos (by omega)]
  | succ m ih =>
    intro fu k g hm hf hk hg
    obtain ⟨fu, rfl⟩ : ∃ z, fu = z + 1 := ⟨fu - 1, by omega⟩
    have hcl : (nI k).toNatClampNeg = k := nI_clamp (by omega)
    have hin : dk_in (nI k) 32 := dk_in_nI (by omega) (by omega)
    have e7 : 7 * nI k + nI a = nI (7 * k + a) := by rw [nI_Lmul, nI_add]
    have hca : (nI (7 * k + a)).toNatClampNeg = 7 * k + a := nI_clamp (by omega)
    have hgk : g k = nI (L k).toNat := by rw [hg k (by omega), if_neg (by omega)]
    have nxt : ∀ x : Int32, x = nI (L k && decide (am (7 * k + a) = v)).toNat → ∀ i, i < F → upd g k x i = nI (if i < k + 1 then (L i && decide (am (7 * i + a) = v)) else L i).toNat := by
      intro x hx i hi
      by_cases q : i = k
      · subst q; rw [pk_us, if_pos (by omega), hx]
      · rw [pk_un q, hg i hi]
        by_cases q2 : i < k
        · rw [if_pos q2, if_pos (by omega)]
        · rw [if_neg q2, if_neg (by omega)]
    rw [lp_mShelf_strike_59c2, ho, if_neg (nI_ge (show k < F by omega) (by omega)), if_neg (show ¬ (1 : Int32) = 0 by decide), if_pos hin, nI_1, e7]
    cases hL : L k with
    | false =>
      rw [if_pos (by rw [hcl, hgk, hL]; rfl), if_pos hin, hcl, dk_let]
      exact ih fu (k + 1) _ (by omega) (by omega) (by omega) (nxt 0 (by rw [hL, Bool.false_and]; rfl))
    | true =>
      rw [if_neg (by rw [hcl, hgk, hL]; decide), if_pos (dk_in_nI (by omega) (by omega))]
      by_cases q : am (7 * k + a) = v
      · rw [if_pos (by rw [hca]; exact q), if_pos hin, hcl, dk_let]
        exact ih fu (k + 1) _ (by omega) (by omega) (by omega) (nxt 1 (by rw [hL, decide_eq_true q]; rfl))
      · rw [if_neg (by rw [hca]; exact q), if_pos hin, hcl, dk_let]
        exact ih fu (k + 1) _ (by omega) (by omega) (by omega) (nxt 0 (by rw [hL, decide_eq_false q]; rfl))
theorem st_m {N F a : Nat} {v : Int32} {o : ob_mShelf} {lm am : Nat → Int32} {L : Nat → Bool} (hN : 1000 < N) (hF : F ≤ 32) (ha : a < 7) (ho : fd_mShelf_fonts o = nI F) (hl : lfR F L lm) :
    ∃ lm', ex_mShelf_strike N o lm am (nI a) v = some (lm', nI (anyL L (fun i => decide (am (7 * i + a) = v)) F).toNat) ∧ lfR F (strL F L (fun i => decide (am (7 * i + a) = v))) lm' := by
  unfold ex_mShelf_strike
  have h1 : lp_mShelf_strike_5 o lm am (nI a) v N 0 0 = some (nI (anyL L (fun i => decide (am (7 * i + a) = v)) F).toNat) := st_any hF ha ho hl F N 0 rfl (by omega) (by omega)
  rw [h1]
  simp only [Option.bind_some]
  cases hq : anyL L (fun i => decide (am (7 * i + a) = v)) F with
  | false =>
    obtain ⟨N', rfl⟩ : ∃ z, N = z + 1 := ⟨N - 1, by omega⟩
    have h2 : lp_mShelf_strike_59c2 o am (nI a) v (nI (false).toNat) (N' + 1) 0 lm = some lm := by
      rw [lp_mShelf_strike_59c2, if_pos (show nI (false).toNat = 0 from rfl), ite_self]
    rw [h2]
    simp only [Option.bind_some]
    refine ⟨lm, by rw [if_pos (bt_bool false)], fun i hi => ?_⟩
    unfold strL
    rw [hq, hl i hi]; simp
  | true =>
    obtain ⟨lm', e1, e2⟩ := st_lset (v := v) (am := am) (L := L) hF ha ho F N 0 lm rfl (by omega) (by omega) (fun i hi => by rw [if_neg (by omega)]; exact hl i hi)
    have e1' : lp_mShelf_strike_59c2 o am (nI a) v (nI (true).toNat) N 0 lm = some lm' := e1
    rw [e1']
    simp only [Option.bind_some]
    refine ⟨lm', by rw [if_pos (bt_bool true)], fun i hi => ?_⟩
    unfold strL
    rw [hq, e2 i hi]; simp
theorem anyL_congr {L L' f f' : Nat → Bool} : ∀ n, (∀ i, i < n → L i = L' i ∧ f i = f' i) → anyL L f n = anyL L' f' n := by
  intro n
  induction n with
  | zero => intro _; rfl
  | succ n ih => intro h; show (anyL L f n || (L n && f n)) = (anyL L' f' n || (L' n && f' n)); rw [ih (fun i hi => h i (by omega)), (h n (by omega)).1, (h n (by omega)).2]
/-- keepThose and strike alike -/
theorem sl_strike {N F a : Nat} {v : Int32} {o : ob_FontShelf} {om : ob_mShelf} {lc lm ac am : Nat → Int32} {L : Nat → Bool} (hN : 1000 < N) (hF : F ≤ 32) (ha : a < 7) (ho : fd_FontShelf_fonts o = nI F) (hm : fd_mShelf_fonts om = nI F) (hat : agree (7 * F) ac am) (hl : lfR F L lc) (hl2 : lfR F L lm) :
    ∃ lc' lm', ex_FontShelf_keepThose N o lc ac (nI a) v = some (lc', nI (anyL L (fun i => decide (ac (7 * i + a) = v)) F).toNat) ∧ ex_mShelf_strike N om lm am (nI a) v = some (lm', nI (anyL L (fun i => decide (ac (7 * i + a) = v)) F).toNat) ∧ lfR F (strL F L (fun i => decide (ac (7 * i + a) = v))) lc' ∧ lfR F (strL F L (fun i => decide (ac (7 * i + a) = v))) lm' := by
  obtain ⟨lc', e1, e2⟩ := kp_c (N := N) (v := v) (ac := ac) hN hF ha ho hl
  obtain ⟨lm', r1, r2⟩ := st_m (N := N) (v := v) (am := am) hN hF ha hm hl2
  have hc : anyL L (fun i => decide (am (7 * i + a) = v)) F = anyL L (fun i => decide (ac (7 * i + a) = v)) F := anyL_congr F (fun i hi => ⟨rfl, by show decide _ = decide _; rw [hat _ (by omega)]⟩)
  rw [hc] at r1
  refine ⟨lc', lm', e1, r1, e2, fun i hi => ?_⟩
  rw [r2 i hi]
  unfold strL
  have e := hat (7 * i + a) (by omega)
  rw [hc]
  show nI (L i && (!anyL L (fun i => decide (ac (7 * i + a) = v)) F || decide (am (7 * i + a) = v))).toNat = nI (L i && (!anyL L (fun i => decide (ac (7 * i + a) = v)) F || decide (ac (7 * i + a) = v))).toNat
  rw [e]
/-- the least, or the greatest, of some numbers -/
def best (ls : Bool) (P : Nat → Bool) (x : Nat → Int) : Nat → Option Int
  | 0 => none
  | n + 1 => if P n = true then (match best ls P x n with
    | none => some (x n)
    | some b => if (if ls then x n < b else b < x n) then some (x n) else some b) else best ls P x n
def atI (ac : Nat → Int32) (a i : Nat) : Int := (ac (7 * i + a)).toInt
theorem best_in {ls : Bool} {P : Nat → Bool} {x : Nat → Int} : ∀ n b, best ls P x n = some b → ∃ i, i < n ∧ P i = true ∧ x i = b := by
  intro n
  induction n with
  | zero => intro b h; exact absurd h (by intro q; cases q)
  | succ n ih =>
    intro b h
    unfold best at h
    by_cases hP : P n = true
    · rw [if_pos hP] at h
      cases hb : best ls P x n with
      | none => rw [hb] at h; exact ⟨n, by omega, hP, Option.some.inj h⟩
      | some c =>
        rw [hb] at h
        obtain ⟨i, h1, h2, h3⟩ := ih c hb
        by_cases q : (if ls then x n < c else c < x n)
        · have h' : (if (if ls then x n < c else c < x n) then some (x n) else some c) = some b := h
          rw [if_pos q] at h'; exact ⟨n, by omega, hP, Option.some.inj h'⟩
        · have h' : (if (if ls then x n < c else c < x n) then some (x n) else some c) = some b := h
          rw [if_neg q] at h'; exact ⟨i, by omega, h2, h3.trans (Option.some.inj h')⟩
    · rw [if_neg hP] at h
      obtain ⟨i, h1, h2, h3⟩ := ih b h
      exact ⟨i, by omega, h2, h3⟩
theorem bs_off {ls : Bool} {P : Nat → Bool} {x : Nat → Int} {n : Nat} (h : P n = false) : best ls P x (n + 1) = best ls P x n := by
  show (if P n = true then _ else _) = _
  rw [if_neg (by rw [h]; decide)]
theorem bs_none {ls : Bool} {P : Nat → Bool} {x : Nat → Int} {n : Nat} (h : P n = true) (hb : best ls P x n = none) : best ls P x (n + 1) = some (x n) := by
  show (if P n = true then _ else _) = _
  rw [if_pos h, hb]
theorem bs_some {ls : Bool} {P : Nat → Bool} {x : Nat → Int} {n : Nat} {b : Int} (h : P n = true) (hb : best ls P x n = some b) : best ls P x (n + 1) = if (if ls then x n < b else b < x n) then some (x n) else some b := by
  show (if P n = true then _ else _) = _
  rw [if_pos h, hb]
/-- one step of a search for the end -/
theorem bs_step {ls : Bool} {P : Nat → Bool} {x : Nat → Int} {n : Nat} (e : Int) : (best ls P x (n + 1)).getD e = if P n = true then (match best ls P x n with
    | none => x n
    | some b => if (if ls then x n < b else b < x n) then x n else b) else (best ls P x n).getD e := by
  cases h : P n with
  | false => rw [bs_off h, if_neg (by decide)]
  | true =>
    rw [if_pos rfl]
    cases hb : best ls P x n with
    | none => rw [bs_none h hb]; rfl
    | some b =>
      rw [bs_some h hb]
      by_cases q : (if ls then x n < b else b < x n)
      · rw [if_pos q]; exact (if_pos q).symm
      · rw [if_neg q]; exact (if_neg q).symm
theorem le_c {N F a : Nat} {v : Int} {o : ob_FontShelf} {lc ac : Nat → Int32} {L : Nat → Bool} (hF : F ≤ 32) (ha : a < 7) (hv : -2147483648 ≤ v ∧ v < 2147483648) (ho : fd_FontShelf_fonts o = nI F) (hl : lfR F L lc) (hx : ∀ i, i < F → 0 ≤ atI ac a i) (hN : 1000 < N) :
    ex_FontShelf_least N o lc ac (nI a) (iI v) = some (iI ((best true (fun i => L i && decide (v ≤ atI ac a i)) (atI ac a) F).getD (-1))) := by
  have hr : ∀ i, -2147483648 ≤ atI ac a i ∧ atI ac a i < 2147483648 := fun i => ⟨Int32.le_toInt _, Int32.toInt_lt _⟩
  have lp : ∀ (m fu k : Nat), F - k = m → m < fu → k ≤ F → lp_FontShelf_least_5 N o lc ac (nI a) (iI v) fu (nI k) (iI ((best true (fun i => L i && decide (v ≤ atI ac a i)) (atI ac a) k).getD (-1))) = some (iI ((best true (fun i => L i && decide (v ≤ atI ac a i)) (atI ac a) F).getD (-1))) := by
    intro m
    induction m with
    | zero =>
      intro fu k hm hf hk
      obtain ⟨fu, rfl⟩ : ∃ z, fu = z + 1 := ⟨fu - 1, by omega⟩
      have : k = F := by omega
      subst this
      rw [lp_FontShelf_least_5, ho, if_pos (nI_le (Nat.le_refl _) (by omega))]
    | succ m ih =>
      intro fu k hm hf hk
      obtain ⟨fu, rfl⟩ : ∃ z, fu = z + 1 := ⟨fu - 1, by omega⟩
      have hr' := ih fu (k + 1) (by omega) (by omega) (by omega)
      have hcl : (nI k).toNatClampNeg = k := nI_clamp (by omega)
      have eI : ac (7 * k + a) = iI (atI ac a k) := (iI_self _).symm
      have cv : iI (atI ac a k) < iI v ↔ atI ac a k < v := iI_lt (hr k) hv
      rw [lp_FontShelf_least_5, ho, if_neg (nI_ge (show k < F by omega) (by omega)), if_neg (show ¬ (32 : Int32) ≤ nI k from nI_ge (b := 32) (by omega) (by omega)), fs_att (by omega) ha]
      simp only [Option.bind_some]
      rw [if_pos (dk_in_nI (by omega) (by omega)), nI_1, eI]
      cases hL : L k with
      | false =>
        rw [bs_off (by show (L k && _) = false; rw [hL]; rfl)] at hr'
        rw [if_pos (by rw [hcl, hl k (by omega), hL]; rfl)]; exact hr'
      | true =>
        rw [if_neg (by rw [hcl, hl k (by omega), hL]; decide)]
        by_cases q : atI ac a k < v
        · rw [bs_off (by show (L k && decide (v ≤ atI ac a k)) = false; rw [hL, decide_eq_false (by omega)]; rfl)] at hr'
          rw [if_pos (cv.mpr q)]; exact hr'
        · have hP : (fun i => L i && decide (v ≤ atI ac a i)) k = true := by show (L k && decide (v ≤ atI ac a k)) = true; rw [hL, decide_eq_true (by omega)]; rfl
          rw [if_neg (mt cv.mp q)]
          cases hb : best true (fun i => L i && decide (v ≤ atI ac a i)) (atI ac a) k with
          | none =>
            rw [bs_none hP hb] at hr'
            rw [if_pos (show iI ((none : Option Int).getD (-1)) = -1 by decide)]; exact hr'
          | some b =>
            rw [bs_some hP hb] at hr'
            obtain ⟨i, hi1, hi2, hi3⟩ := best_in k b hb
            have hb0 : 0 ≤ b := by rw [← hi3]; exact hx i (by omega)
            have hbr := hr i
            rw [hi3] at hbr
            have n1 : ¬ iI ((some b).getD (-1)) = -1 := by
              have : (-1 : Int32) = iI (-1) := by decide
              rw [this]; exact mt (iI_eq hbr (by omega)).mp (by show ¬ b = -1; omega)
            have cb : iI ((some b).getD (-1)) ≤ iI (atI ac a k) ↔ b ≤ atI ac a k := iI_le hbr (hr k)
            rw [if_neg n1]
            by_cases q2 : b ≤ atI ac a k
            · rw [if_pos (cb.mpr q2)]
              have h2 : (if (if true then atI ac a k < b else b < atI ac a k) then some (atI ac a k) else some b) = some b := if_neg (by show ¬ (atI ac a k < b); omega)
              rw [h2] at hr'; exact hr'
            · rw [if_neg (mt cb.mp q2)]
              have h2 : (if (if true then atI ac a k < b else b < atI ac a k) then some (atI ac a k) else some b) = some (atI ac a k) := if_pos (by show (atI ac a k < b); omega)
              rw [h2] at hr'; exact hr'
  unfold ex_FontShelf_least
  have h1 : lp_FontShelf_least_5 N o lc ac (nI a) (iI v) N 0 (-1) = _ := lp F N 0 rfl (by omega) (by omega)
  rw [h1]; rfl
theorem gr_c {N F a : Nat} {v : Int} {o : ob_FontShelf} {lc ac : Nat → Int32} {L : Nat → Bool} (hF : F ≤ 32) (ha : a < 7) (hv : -2147483648 ≤ v ∧ v < 2147483648) (ho : fd_FontShelf_fonts o = nI F) (hl : lfR F L lc) (hx : ∀ i, i < F → 0 ≤ atI ac a i) (hN : 1000 < N) :
    ex_FontShelf_greatest N o lc ac (nI a) (iI v) = some (iI ((best false (fun i => L i && decide (atI ac a i ≤ v)) (atI ac a) F).getD (-1))) := by
  have hr : ∀ i, -2147483648 ≤ atI ac a i ∧ atI ac a i < 2147483648 := fun i => ⟨Int32.le_toInt _, Int32.toInt_lt _⟩
  have lp : ∀ (m fu k : Nat), F - k = m → m < fu → k ≤ F → lp_FontShelf_greatest_5 N o lc ac (nI a) (iI v) fu (nI k) (iI ((best false (fun i => L i && decide (atI ac a i ≤ v)) (atI ac a) k).getD (-1))) = some (iI ((best false (fun i => L i && decide (atI ac a i ≤ v)) (atI ac a) F).getD (-1))) := by
    intro m
    induction m with
    | zero =>
      intro fu k hm hf hk
      obtain ⟨fu, rfl⟩ : ∃ z, fu = z + 1 := ⟨fu - 1, by omega⟩
      have : k = F := by omega
      subst this
      rw [lp_FontShelf_greatest_5, ho, if_pos (nI_le (Nat.le_refl _) (by omega))]
    | succ m ih =>
      intro fu k hm hf hk
      obtain ⟨fu, rfl⟩ : ∃ z, fu = z + 1 := ⟨fu - 1, by omega⟩
      have hr' := ih fu (k + 1) (by omega) (by omega) (by omega)
      have hcl : (nI k).toNatClampNeg = k := nI_clamp (by omega)
      have eI : ac (7 * k + a) = iI (atI ac a k) := (iI_self _).symm
      have cv : iI v < iI (atI ac a k) ↔ v < atI ac a k := iI_lt hv (hr k)
      rw [lp_FontShelf_greatest_5, ho, if_neg (nI_ge (show k < F by omega) (by omega)), if_neg (show ¬ (32 : Int32) ≤ nI k from nI_ge (b := 32) (by omega) (by omega)), fs_att (by omega) ha]
      simp only [Option.bind_some]
      rw [if_pos (dk_in_nI (by omega) (by omega)), nI_1, eI]
      cases hL : L k with
      | false =>
        rw [bs_off (by show (L k && _) = false; rw [hL]; rfl)] at hr'
        rw [if_pos (by rw [hcl, hl k (by omega), hL]; rfl)]; exact hr'
      | true =>
        rw [if_neg (by rw [hcl, hl k (by omega), hL]; decide)]
        by_cases q : v < atI ac a k
        · rw [bs_off (by show (L k && decide (atI ac a k ≤ v)) = false; rw [hL, decide_eq_false (by omega)]; rfl)] at hr'
          rw [if_pos (cv.mpr q)]; exact hr'
        · have hP : (fun i => L i && decide (atI ac a i ≤ v)) k = true := by show (L k && decide (atI ac a k ≤ v)) = true; rw [hL, decide_eq_true (by omega)]; rfl
          rw [if_neg (mt cv.mp q)]
          cases hb : best false (fun i => L i && decide (atI ac a i ≤ v)) (atI ac a) k with
          | none =>
            rw [bs_none hP hb] at hr'
            have := hx k (by omega)
            have c0 : iI (atI ac a k) ≤ iI ((none : Option Int).getD (-1)) ↔ atI ac a k ≤ -1 := iI_le (hr k) (by show -2147483648 ≤ (-1 : Int) ∧ _; exact ⟨by omega, by show (-1 : Int) < 2147483648; omega⟩)
            rw [if_neg (mt c0.mp (by omega))]; exact hr'
          | some b =>
            rw [bs_some hP hb] at hr'
            obtain ⟨i, hi1, hi2, hi3⟩ := best_in k b hb
            have hbr := hr i
            rw [hi3] at hbr
            have cb : iI (atI ac a k) ≤ iI ((some b).getD (-1)) ↔ atI ac a k ≤ b := iI_le (hr k) hbr
            by_cases q2 : atI ac a k ≤ b
            · rw [if_pos (cb.mpr q2)]
              have h2 : (if (if false then atI ac a k < b else b < atI ac a k) then some (atI ac a k) else some b) = some b := if_neg (by show ¬ (b < atI ac a k); omega)
              rw [h2] at hr'; exact hr'
            · rw [if_neg (mt cb.mp q2)]
              have h2 : (if (if false then atI ac a k < b else b < atI ac a k) then some (atI ac a k) else some b) = some (atI ac a k) := if_pos (by show (b < atI ac a k); omega)
              rw [h2] at hr'; exact hr'
  unfold ex_FontShelf_greatest
  have h1 : lp_FontShelf_greatest_5 N o lc ac (nI a) (iI v) N 0 (-1) = _ := lp F N 0 rfl (by omega) (by omega)
  rw [h1]; rfl
theorem en_m {N F a : Nat} {lo hi : Int} {ls : Bool} {om : ob_mShelf} {lm am : Nat → Int32} {L : Nat → Bool} (hF : F ≤ 32) (ha : a < 7) (hlo : -1000000 ≤ lo ∧ lo < 1000000) (hhi : -1000000 ≤ hi ∧ hi < 1000000) (ho : fd_mShelf_fonts om = nI F) (hl : lfR F L lm) (hN : 1000 < N) :
    ex_mShelf_end N om am lm (nI a) (iI lo) (iI hi) (nI ls.toNat) = some (iI ((best ls (fun i => L i && decide (lo ≤ atI am a i ∧ atI am a i ≤ hi)) (atI am a) F).getD (lo - 1))) := by
  have hr : ∀ i, -2147483648 ≤ atI am a i ∧ atI am a i < 2147483648 := fun i => ⟨Int32.le_toInt _, Int32.toInt_lt _⟩
  have lp : ∀ (m fu k : Nat), F - k = m → m < fu → k ≤ F → lp_mShelf_end_8 om am lm (nI a) (iI lo) (iI hi) (nI ls.toNat) fu (nI k) (iI ((best ls (fun i => L i && decide (lo ≤ atI am a i ∧ atI am a i ≤ hi)) (atI am a) k).getD (lo - 1))) = some (iI ((best ls (fun i => L i && decide (lo ≤ atI am a i ∧ atI am a i ≤ hi)) (atI am a) F).getD (lo - 1))) := by
    intro m
    induction m with
    | zero =>
      intro fu k hm hf hk
      obtain ⟨fu, rfl⟩ : ∃ z, fu = z + 1 := ⟨fu - 1, by omega⟩
      have : k = F := by omega
      subst this
      rw [lp_mShelf_end_8, ho, if_pos (nI_le (Nat.le_refl _) (by omega))]
    | succ m ih =>
      intro fu k hm hf hk
      obtain ⟨fu, rfl⟩ : ∃ z, fu = z + 1 := ⟨fu - 1, by omega⟩
      have hr' := ih fu (k + 1) (by omega) (by omega) (by omega)
      have hcl : (nI k).toNatClampNeg = k := nI_clamp (by omega)
      have e7 : 7 * nI k + nI a = nI (7 * k + a) := by rw [nI_Lmul, nI_add]
      have eI : am (nI (7 * k + a)).toNatClampNeg = iI (atI am a k) := by rw [nI_clamp (by omega)]; exact (iI_self _).symm
      have cl : iI (atI am a k) < iI lo ↔ atI am a k < lo := iI_lt (hr k) (by omega)
      have ch : iI hi < iI (atI am a k) ↔ hi < atI am a k := iI_lt (by omega) (hr k)
      rw [lp_mShelf_end_8, ho, if_neg (nI_ge (show k < F by omega) (by omega)), e7, if_pos (dk_in_nI (by omega) (by omega)), if_pos (dk_in_nI (by omega) (by omega)), nI_1]
      simp only [eI]
      cases hL : L k with
      | false =>
        rw [bs_off (by show (L k && _) = false; rw [hL]; rfl)] at hr'
        rw [if_pos (by rw [hcl, hl k (by omega), hL]; rfl)]; exact hr'
      | true =>
        rw [if_neg (by rw [hcl, hl k (by omega), hL]; decide)]
        by_cases q1 : atI am a k < lo
        · rw [bs_off (by show (L k && decide (lo ≤ atI am a k ∧ atI am a k ≤ hi)) = false; rw [hL, decide_eq_false (by omega)]; rfl)] at hr'
          rw [if_pos (cl.mpr q1)]; exact hr'
        rw [if_neg (mt cl.mp q1)]
        by_cases q2 : hi < atI am a k
        · rw [bs_off (by show (L k && decide (lo ≤ atI am a k ∧ atI am a k ≤ hi)) = false; rw [hL, decide_eq_false (by omega)]; rfl)] at hr'
          rw [if_pos (ch.mpr q2)]; exact hr'
        rw [if_neg (mt ch.mp q2)]
        have hP : (fun i => L i && decide (lo ≤ atI am a i ∧ atI am a i ≤ hi)) k = true := by show (L k && decide (lo ≤ atI am a k ∧ atI am a k ≤ hi)) = true; rw [hL, decide_eq_true (by omega)]; rfl
        cases hb : best ls (fun i => L i && decide (lo ≤ atI am a i ∧ atI am a i ≤ hi)) (atI am a) k with
        | none =>
          rw [bs_none hP hb] at hr'
          have c0 : iI ((none : Option Int).getD (lo - 1)) < iI lo ↔ lo - 1 < lo := iI_lt (a := lo - 1) (by omega) (by omega)
          rw [if_pos (c0.mpr (by omega))]; exact hr'
        | some b =>
          rw [bs_some hP hb] at hr'
          obtain ⟨i, hi1, hi2, hi3⟩ := best_in k b hb
          have hbr := hr i
          have hi2' : (L i && decide (lo ≤ atI am a i ∧ atI am a i ≤ hi)) = true := hi2
          have hin := of_decide_eq_true (Bool.and_eq_true _ _ ▸ hi2' : L i = true ∧ decide (lo ≤ atI am a i ∧ atI am a i ≤ hi) = true).2
          rw [hi3] at hbr hin
          have c0 : iI ((some b).getD (lo - 1)) < iI lo ↔ b < lo := iI_lt (a := b) hbr (by omega)
          rw [if_neg (mt c0.mp (by omega))]
          have cb : iI (atI am a k) ≤ iI ((some b).getD (lo - 1)) ↔ atI am a k ≤ b := iI_le (hr k) hbr
          have cb2 : iI ((some b).getD (lo - 1)) ≤ iI (atI am a k) ↔ b ≤ atI am a k := iI_le hbr (hr k)
          cases ls with
          | false =>
            rw [if_pos (show nI (false).toNat = 0 from rfl)]
            by_cases q3 : atI am a k ≤ b
            · rw [if_pos (cb.mpr q3)]
              have h2 : (if (if false then atI am a k < b else b < atI am a k) then some (atI am a k) else some b) = some b := if_neg (by show ¬ (b < atI am a k); omega)
              rw [h2] at hr'; exact hr'
            · rw [if_neg (mt cb.mp q3)]
              have h2 : (if (if false then atI am a k < b else b < atI am a k) then some (atI am a k) else some b) = some (atI am a k) := if_pos (by show (b < atI am a k); omega)
              rw [h2] at hr'; exact hr'
          | true =>
            rw [if_neg (show ¬ nI (true).toNat = 0 by decide)]
            by_cases q3 : b ≤ atI am a k
            · rw [if_pos (cb2.mpr q3)]
              have h2 : (if (if true then atI am a k < b else b < atI am a k) then some (atI am a k) else some b) = some b := if_neg (by show ¬ (atI am a k < b); omega)
              rw [h2] at hr'; exact hr'
            · rw [if_neg (mt cb2.mp q3)]
              have h2 : (if (if true then atI am a k < b else b < atI am a k) then some (atI am a k) else some b) = some (atI am a k) := if_pos (by show (atI am a k < b); omega)
              rw [h2] at hr'; exact hr'
  unfold ex_mShelf_end
  have e1 : iI lo - 1 = iI (lo - 1) := by rw [iI_lit, iI_sub]; rfl
  rw [e1]
  have h1 : lp_mShelf_end_8 om am lm (nI a) (iI lo) (iI hi) (nI ls.toNat) N 0 (iI (lo - 1)) = _ := lp F N 0 rfl (by omega) (by omega)
  rw [h1]; rfl
theorem best_congr {ls : Bool} {P P' : Nat → Bool} {x x' : Nat → Int} : ∀ n, (∀ i, i < n → P i = P' i ∧ x i = x' i) → best ls P x n = best ls P' x' n := by
  intro n
  induction n with
  | zero => intro _; rfl
  | succ n ih =>
    intro h
    have e := ih (fun i hi => h i (by omega))
    obtain ⟨h1, h2⟩ := h n (by omega)
    cases hP : P n with
    | false => rw [bs_off hP, bs_off (by rw [← h1]; exact hP), e]
    | true =>
      have hP' : P' n = true := by rw [← h1]; exact hP
      cases hb : best ls P x n with
      | none => rw [bs_none hP hb, bs_none hP' (by rw [← e]; exact hb), h2]
      | some b => rw [bs_some hP hb, bs_some hP' (by rw [← e]; exact hb), h2]
theorem anyL_none {L f : Nat → Bool} : ∀ n, (∀ i, i < n → f i = false) → anyL L f n = false := by
  intro n
  induction n with
  | zero => intro _; rfl
  | succ n ih => intro h; show (anyL L f n || (L n && f n)) = false; rw [ih (fun i hi => h i (by omega)), h n (by omega)]; simp
theorem strL_none {F : Nat} {L f : Nat → Bool} (h : ∀ i, i < F → f i = false) : ∀ i, strL F L f i = L i := by
  intro i; unfold strL; rw [anyL_none F h]; simp
/-- the height's choice alike -/
theorem sl_height {N F : Nat} {v : Int} {o : ob_FontShelf} {om : ob_mShelf} {lc lm ac am : Nat → Int32} {L : Nat → Bool} (hN : 1000 < N) (hF : F ≤ 32) (ho : fd_FontShelf_fonts o = nI F) (hm : fd_mShelf_fonts om = nI F) (hat : agree (7 * F) ac am) (hok : ∀ i, i < F → 1 ≤ atI ac 3 i ∧ atI ac 3 i ≤ 99999) (hv : 1 ≤ v ∧ v ≤ 99999) (hl : lfR F L lc) (hl2 : lfR F L lm) :
    ∃ hh lc' r lm' L', ex_FontShelf_nearestHeight N o ac lc (iI v) = some hh ∧ ex_FontShelf_keepThose N o lc ac 3 hh = some (lc', r) ∧ ex_mShelf_byHeight N om am lm (iI v) = some lm' ∧ lfR F L' lc' ∧ lfR F L' lm' := by
  have hx : ∀ i, i < F → atI ac 3 i = atI am 3 i := fun i hi => by unfold atI; rw [hat _ (by omega)]
  have c1 := le_c (N := N) (o := o) (lc := lc) (ac := ac) (a := 3) (v := v) hF (by omega) (by omega) ho hl (fun i hi => by have := hok i hi; omega) hN
  have c2 := gr_c (N := N) (o := o) (lc := lc) (ac := ac) (a := 3) (v := v) hF (by omega) (by omega) ho hl (fun i hi => by have := hok i hi; omega) hN
  have m1 := en_m (N := N) (om := om) (lm := lm) (am := am) (a := 3) (lo := v) (hi := 99999) (ls := true) hF (by omega) (by omega) (by omega) hm hl2 hN
  have m2 := en_m (N := N) (om := om) (lm := lm) (am := am) (a := 3) (lo := 1) (hi := v) (ls := false) hF (by omega) (by omega) (by omega) hm hl2 hN
  have b1 : best true (fun i => L i && decide (v ≤ atI am 3 i ∧ atI am 3 i ≤ 99999)) (atI am 3) F = best true (fun i => L i && decide (v ≤ atI ac 3 i)) (atI ac 3) F := best_congr F (fun i hi => ⟨by
    show (L i && decide _) = (L i && decide _)
    rw [← hx i hi]; congr 1; exact decide_eq_decide.mpr (by have := hok i hi; omega), (hx i hi).symm⟩)
  have b2 : best false (fun i => L i && decide (1 ≤ atI am 3 i ∧ atI am 3 i ≤ v)) (atI am 3) F = best false (fun i => L i && decide (atI ac 3 i ≤ v)) (atI ac 3) F := best_congr F (fun i hi => ⟨by
    show (L i && decide _) = (L i && decide _)
    rw [← hx i hi]; congr 1; exact decide_eq_decide.mpr (by have := hok i hi; omega), (hx i hi).symm⟩)
  rw [b1] at m1; rw [b2] at m2
  have c1' : ex_FontShelf_least N o lc ac 3 (iI v) = _ := c1
  have c2' : ex_FontShelf_greatest N o lc ac 3 (iI v) = _ := c2
  have m1' : ex_mShelf_end N om am lm 3 (iI v) 99999 1 = _ := m1
  have m2' : ex_mShelf_end N om am lm 3 1 (iI v) 0 = _ := m2
  -- by a number that both take
  have same : ∀ z : Int32, ∃ lc' r lm' L', ex_FontShelf_keepThose N o lc ac 3 z = some (lc', r) ∧ (ex_mShelf_strike N om lm am 3 z).bind (fun u => some u.1) = some lm' ∧ lfR F L' lc' ∧ lfR F L' lm' := fun z => by
    obtain ⟨lc', lm', e1, e2, e3, e4⟩ := sl_strike (N := N) (a := 3) (v := z) hN hF (by omega) ho hm hat hl hl2
    have e2' : ex_mShelf_strike N om lm am 3 z = _ := e2
    exact ⟨lc', _, lm', _, e1, by rw [e2']; rfl, e3, e4⟩
  have m_1 : (-1 : Int32) = iI (-1) := by decide
  unfold ex_FontShelf_nearestHeight ex_mShelf_byHeight
  rw [c1', c2', m1', m2']
  simp only [Option.bind_some]
  cases hA : best true (fun i => L i && decide (v ≤ atI ac 3 i)) (atI ac 3) F with
  | none =>
    have t1 : iI ((none : Option Int).getD (-1)) = -1 := by decide
    have t2 : iI ((none : Option Int).getD (v - 1)) < iI v := (iI_lt (a := v - 1) (by omega) (by omega)).mpr (by omega)
    rw [if_pos t1, if_pos t2]
    cases hB : best false (fun i => L i && decide (atI ac 3 i ≤ v)) (atI ac 3) F with
    | none =>
      have s1 : (if iI ((none : Option Int).getD (-1)) < iI ((none : Option Int).getD (-1)) then iI ((none : Option Int).getD (-1)) else iI ((none : Option Int).getD (-1))) = (-1 : Int32) := by rw [ite_self, t1]
      rw [s1]
      obtain ⟨lc', e1, e2⟩ := kp_c (N := N) (a := 3) (v := -1) (ac := ac) hN hF (by omega) ho hl
      obtain ⟨lm', r1, r2⟩ := st_m (N := N) (a := 3) (v := 0) (am := am) hN hF (by omega) hm hl2
      have f1 : ∀ i, i < F → (fun i => decide (ac (7 * i + 3) = (-1 : Int32))) i = false := fun i hi => decide_eq_false (fun hq => by
        have := hok i hi; unfold atI at this; rw [hq] at this; exact absurd this.1 (by decide))
      have f2 : ∀ i, i < F → (fun i => decide (am (7 * i + 3) = (0 : Int32))) i = false := fun i hi => decide_eq_false (fun hq => by
        have := hok i hi; rw [hx i hi] at this; unfold atI at this; rw [hq] at this; exact absurd this.1 (by decide))
      have e1' : ex_FontShelf_keepThose N o lc ac 3 (-1) = _ := e1
      have r1' : ex_mShelf_strike N om lm am 3 (iI ((none : Option Int).getD (1 - 1))) = _ := r1
      rw [r1']
      exact ⟨-1, lc', _, lm', L, rfl, e1', rfl, fun i hi => by rw [e2 i hi, strL_none f1], fun i hi => by rw [r2 i hi, strL_none f2]⟩
    | some b =>
      obtain ⟨i, hi1, hi2, hi3⟩ := best_in F b hB
      have hb := hok i hi1
      rw [hi3] at hb
      have s1 : (if iI ((none : Option Int).getD (-1)) < iI ((some b).getD (-1)) then iI ((some b).getD (-1)) else iI ((none : Option Int).getD (-1))) = iI b := if_pos ((iI_lt (a := -1) (b := b) (by omega) (by omega)).mpr (by omega))
      rw [s1]
      obtain ⟨lc', r, lm', L', x1, x2, x3, x4⟩ := same (iI b)
      exact ⟨iI b, lc', r, lm', L', rfl, x1, x2, x3, x4⟩
  | some a' =>
    obtain ⟨i, hi1, hi2, hi3⟩ := best_in F a' hA
    have hb := hok i hi1
    have hi2' : (L i && decide (v ≤ atI ac 3 i)) = true := hi2
    have hva := of_decide_eq_true (Bool.and_eq_true _ _ ▸ hi2' : L i = true ∧ decide (v ≤ atI ac 3 i) = true).2
    rw [hi3] at hb hva
    have t1 : ¬ iI ((some a').getD (-1)) = -1 := by rw [m_1]; exact mt (iI_eq (a := a') (b := -1) (by omega) (by omega)).mp (by omega)
    have t2 : ¬ iI ((some a').getD (v - 1)) < iI v := mt (iI_lt (a := a') (by omega) (by omega)).mp (by omega)
    rw [if_neg t1, if_neg t2]
    cases hB : best false (fun i => L i && decide (atI ac 3 i ≤ v)) (atI ac 3) F with
    | none =>
      have t3 : iI ((none : Option Int).getD (-1)) = -1 := by decide
      have t4 : iI ((none : Option Int).getD (1 - 1)) < 1 := by decide
      have s1 : (if iI ((some a').getD (-1)) < iI ((none : Option Int).getD (-1)) then iI ((none : Option Int).getD (-1)) else iI ((some a').getD (-1))) = iI a' := if_neg (mt (iI_lt (a := a') (b := -1) (by omega) (by omega)).mp (by omega))
      rw [if_pos t3, if_pos t4, s1]
      obtain ⟨lc', r, lm', L', x1, x2, x3, x4⟩ := same (iI a')
      exact ⟨iI a', lc', r, lm', L', rfl, x1, x2, x3, x4⟩
    | some b =>
      obtain ⟨j, hj1, hj2, hj3⟩ := best_in F b hB
      have hbj := hok j hj1
      rw [hj3] at hbj
      have t3 : ¬ iI ((some b).getD (-1)) = -1 := by rw [m_1]; exact mt (iI_eq (a := b) (b := -1) (by omega) (by omega)).mp (by omega)
      have t4 : ¬ iI ((some b).getD (1 - 1)) < 1 := mt (iI_lt (a := b) (b := 1) (by omega) (by omega)).mp (by omega)
      rw [if_neg t3, if_neg t4]
      show ∃ hh lc' r lm' L', (if iI a' - iI v ≤ iI v - iI b then some (iI a') else some (iI b)) = some hh ∧ _ ∧ (if iI v - iI b < iI a' - iI v then _ else _) = some lm' ∧ _
      rw [iI_sub, iI_sub]
      have d1 : iI (a' - v) ≤ iI (v - b) ↔ a' - v ≤ v - b := iI_le (by omega) (by omega)
      have d2 : iI (v - b) < iI (a' - v) ↔ v - b < a' - v := iI_lt (by omega) (by omega)
      by_cases q : a' - v ≤ v - b
      · rw [if_pos (d1.mpr q), if_neg (mt d2.mp (by omega))]
        obtain ⟨lc', r, lm', L', x1, x2, x3, x4⟩ := same (iI a')
        exact ⟨iI a', lc', r, lm', L', rfl, x1, x2, x3, x4⟩
      · rw [if_neg (mt d1.mp q), if_pos (d2.mpr (by omega))]
        obtain ⟨lc', r, lm', L', x1, x2, x3, x4⟩ := same (iI b)
        exact ⟨iI b, lc', r, lm', L', rfl, x1, x2, x3, x4⟩
theorem best_none {ls : Bool} {P : Nat → Bool} {x : Nat → Int} : ∀ n, best ls P x n = none → ∀ i, i < n → P i = false := by
  intro n
  induction n with
  | zero => intro _ i hi; omega
  | succ n ih =>
    intro h i hi
    cases hP : P n with
    | false =>
      rw [bs_off hP] at h
      by_cases q : i = n
      · subst q; exact hP
      · exact ih h i (by omega)
    | true =>
      cases hb : best ls P x n with
      | none => rw [bs_none hP hb] at h; cases h
      | some b =>
        rw [bs_some hP hb] at h
        by_cases q : (if ls then x n < b else b < x n)
        · rw [if_pos q] at h; cases h
        · rw [if_neg q] at h; cases h
theorem ev_c {N F : Nat} {o : ob_FontShelf} {lc ac : Nat → Int32} {L : Nat → Bool} (hN : 1000 < N) (hF : F ≤ 32) (ho : fd_FontShelf_fonts o = nI F) (hl : lfR F L lc) :
    (ex_FontShelf_allLeftEven N o lc ac = some 1 ∧ ∀ i, i < F → L i = true → ac (7 * i + 1) = 0) ∨ (ex_FontShelf_allLeftEven N o lc ac = some 0 ∧ ∃ i, i < F ∧ L i = true ∧ ac (7 * i + 1) ≠ 0) := by
  have lp : ∀ (m fu k : Nat), F - k = m → m < fu → k ≤ F → (lp_FontShelf_allLeftEven_2 N o lc ac fu (nI k) = some (Sum.inl ()) ∧ ∀ i, k ≤ i → i < F → L i = true → ac (7 * i + 1) = 0) ∨ (lp_FontShelf_allLeftEven_2 N o lc ac fu (nI k) = some (Sum.inr 0) ∧ ∃ i, i < F ∧ L i = true ∧ ac (7 * i + 1) ≠ 0) := by
    intro m
    induction m with
    | zero =>
      intro fu k hm hf hk
      obtain ⟨fu, rfl⟩ : ∃ z, fu = z + 1 := ⟨fu - 1, by omega⟩
      exact Or.inl ⟨by rw [lp_FontShelf_allLeftEven_2, ho, if_pos (nI_le (show F ≤ k by omega) (by omega))], fun i h1 h2 => by omega⟩
    | succ m ih =>
      intro fu k hm hf hk
      obtain ⟨fu, rfl⟩ : ∃ z, fu = z + 1 := ⟨fu - 1, by omega⟩
      have hcl : (nI k).toNatClampNeg = k := nI_clamp (by omega)
      have hat : ex_FontShelf_attribute N o ac (nI k) 1 = some (ac (7 * k + 1)) := fs_att (a := 1) (by omega) (by omega)
      rw [lp_FontShelf_allLeftEven_2, ho, if_neg (nI_ge (show k < F by omega) (by omega)), if_neg (show ¬ (32 : Int32) ≤ nI k from nI_ge (b := 32) (by omega) (by omega)), if_pos (dk_in_nI (by omega) (by omega)), nI_1, hat]
      simp only [Option.bind_some]
      cases hL : L k with
      | false =>
        rw [if_pos (by rw [hcl, hl k (by omega), hL]; rfl)]
        rcases ih fu (k + 1) (by omega) (by omega) (by omega) with ⟨h1, h2⟩ | h1
        · exact Or.inl ⟨h1, fun i hi hi2 hi3 => by
            by_cases q : i = k
            · subst q; rw [hL] at hi3; exact absurd hi3 (by decide)
            · exact h2 i (by omega) hi2 hi3⟩
        · exact Or.inr h1
      | true =>
        rw [if_neg (by rw [hcl, hl k (by omega), hL]; decide)]
        by_cases q0 : ac (7 * k + 1) = 0
        · rw [if_pos q0]
          rcases ih fu (k + 1) (by omega) (by omega) (by omega) with ⟨h1, h2⟩ | h1
          · exact Or.inl ⟨h1, fun i hi hi2 hi3 => by
              by_cases q : i = k
              · subst q; exact q0
              · exact h2 i (by omega) hi2 hi3⟩
          · exact Or.inr h1
        · rw [if_neg q0]
          exact Or.inr ⟨rfl, k, by omega, hL, q0⟩
  unfold ex_FontShelf_allLeftEven
  rcases lp F N 0 rfl (by omega) (by omega) with ⟨h1, h2⟩ | ⟨h1, h2⟩
  · have h1' : lp_FontShelf_allLeftEven_2 N o lc ac N 0 = _ := h1
    rw [h1']; exact Or.inl ⟨rfl, fun i hi => h2 i (by omega) hi⟩
  · have h1' : lp_FontShelf_allLeftEven_2 N o lc ac N 0 = _ := h1
    rw [h1']; exact Or.inr ⟨rfl, h2⟩
/-- the pitch's choice alike -/
theorem sl_pitch {N F : Nat} {v : Int} {o : ob_FontShelf} {om : ob_mShelf} {lc lm ac am : Nat → Int32} {L : Nat → Bool} (hN : 1000 < N) (hF : F ≤ 32) (ho : fd_FontShelf_fonts o = nI F) (hm : fd_mShelf_fonts om = nI F) (hat : agree (7 * F) ac am) (hok : ∀ i, i < F → 1 ≤ atI ac 2 i ∧ atI ac 2 i ≤ 57600) (hok1 : ∀ i, i < F → 0 ≤ atI ac 1 i ∧ atI ac 1 i ≤ 1) (hv : 1 ≤ v ∧ v ≤ 57600) (hl : lfR F L lc) (hl2 : lfR F L lm) :
    (ex_FontShelf_allLeftEven N o lc ac = some 0 ∧ ex_mShelf_byPitch N om am lm (iI v) = some lm) ∨ (ex_FontShelf_allLeftEven N o lc ac = some 1 ∧ ∃ hh lc' r lm' L', ex_FontShelf_bestPitch N o ac lc (iI v) = some hh ∧ ex_FontShelf_keepThose N o lc ac 2 hh = some (lc', r) ∧ ex_mShelf_byPitch N om am lm (iI v) = some lm' ∧ lfR F L' lc' ∧ lfR F L' lm') := by
  have hx : ∀ a i, a < 7 → i < F → atI ac a i = atI am a i := fun a i ha hi => by unfold atI; rw [hat _ (by omega)]
  have m0 := en_m (N := N) (om := om) (lm := lm) (am := am) (a := 1) (lo := 1) (hi := 1) (ls := true) hF (by omega) (by omega) (by omega) hm hl2 hN
  have m0' : ex_mShelf_end N om am lm 1 1 1 1 = _ := m0
  unfold ex_mShelf_byPitch
  rw [m0']
  simp only [Option.bind_some]
  rcases ev_c (N := N) (ac := ac) hN hF ho hl with ⟨ev, hev⟩ | ⟨ev, i, hi, hLi, hne⟩
  · right
    refine ⟨ev, ?_⟩
    have hn : best true (fun i => L i && decide (1 ≤ atI am 1 i ∧ atI am 1 i ≤ 1)) (atI am 1) F = none := by
      cases hb : best true (fun i => L i && decide (1 ≤ atI am 1 i ∧ atI am 1 i ≤ 1)) (atI am 1) F with
      | none => rfl
      | some b =>
        obtain ⟨i, hi1, hi2, hi3⟩ := best_in F b hb
        have hi2' : (L i && decide (1 ≤ atI am 1 i ∧ atI am 1 i ≤ 1)) = true := hi2
        obtain ⟨hLi, hd⟩ := (Bool.and_eq_true _ _ ▸ hi2' : L i = true ∧ decide (1 ≤ atI am 1 i ∧ atI am 1 i ≤ 1) = true)
        have hz := hev i hi1 hLi
        have := of_decide_eq_true hd
        rw [← hx 1 i (by omega) hi1] at this
        unfold atI at this; rw [hz] at this; exact absurd this.1 (by decide)
    rw [hn, if_neg (show ¬ iI ((none : Option Int).getD (1 - 1)) = 1 by decide)]
    have c1 := le_c (N := N) (o := o) (lc := lc) (ac := ac) (a := 2) (v := v) hF (by omega) (by omega) ho hl (fun i hi => by have := hok i hi; omega) hN
    have c2 := gr_c (N := N) (o := o) (lc := lc) (ac := ac) (a := 2) (v := 57600) hF (by omega) (by omega) ho hl (fun i hi => by have := hok i hi; omega) hN
    have m1 := en_m (N := N) (om := om) (lm := lm) (am := am) (a := 2) (lo := v) (hi := 57600) (ls := true) hF (by omega) (by omega) (by omega) hm hl2 hN
    have m2 := en_m (N := N) (om := om) (lm := lm) (am := am) (a := 2) (lo := 1) (hi := v) (ls := false) hF (by omega) (by omega) (by omega) hm hl2 hN
    have b1 : best true (fun i => L i && decide (v ≤ atI am 2 i ∧ atI am 2 i ≤ 57600)) (atI am 2) F = best true (fun i => L i && decide (v ≤ atI ac 2 i)) (atI ac 2) F := best_congr F (fun i hi => ⟨by
      show (L i && decide _) = (L i && decide _)
      rw [← hx 2 i (by omega) hi]; congr 1; exact decide_eq_decide.mpr (by have := hok i hi; omega), (hx 2 i (by omega) hi).symm⟩)
    rw [b1] at m1
    have c1' : ex_FontShelf_least N o lc ac 2 (iI v) = _ := c1
    have c2' : ex_FontShelf_greatest N o lc ac 2 57600 = _ := c2
    have m1' : ex_mShelf_end N om am lm 2 (iI v) 57600 1 = _ := m1
    have m2' : ex_mShelf_end N om am lm 2 1 (iI v) 0 = _ := m2
    have same : ∀ z : Int32, ∃ lc' r lm' L', ex_FontShelf_keepThose N o lc ac 2 z = some (lc', r) ∧ (ex_mShelf_strike N om lm am 2 z).bind (fun u => some u.1) = some lm' ∧ lfR F L' lc' ∧ lfR F L' lm' := fun z => by
      obtain ⟨lc', lm', e1, e2, e3, e4⟩ := sl_strike (N := N) (a := 2) (v := z) hN hF (by omega) ho hm hat hl hl2
      have e2' : ex_mShelf_strike N om lm am 2 z = _ := e2
      exact ⟨lc', _, lm', _, e1, by rw [e2']; rfl, e3, e4⟩
    have m_1 : (-1 : Int32) = iI (-1) := by decide
    unfold ex_FontShelf_bestPitch
    rw [c1', c2', m1', m2']
    simp only [Option.bind_some]
    cases hA : best true (fun i => L i && decide (v ≤ atI ac 2 i)) (atI ac 2) F with
    | some a' =>
      obtain ⟨i, hi1, hi2, hi3⟩ := best_in F a' hA
      have hb := hok i hi1
      have hi2' : (L i && decide (v ≤ atI ac 2 i)) = true := hi2
      have hva := of_decide_eq_true (Bool.and_eq_true _ _ ▸ hi2' : L i = true ∧ decide (v ≤ atI ac 2 i) = true).2
      rw [hi3] at hb hva
      have t1 : ¬ iI ((some a').getD (-1)) = -1 := by rw [m_1]; exact mt (iI_eq (a := a') (b := -1) (by omega) (by omega)).mp (by omega)
      have t2 : iI v ≤ iI ((some a').getD (v - 1)) := (iI_le (b := a') (by omega) (by omega)).mpr (by omega)
      rw [if_neg t1, if_pos t2]
      obtain ⟨lc', r, lm', L', x1, x2, x3, x4⟩ := same (iI a')
      exact ⟨iI a', lc', r, lm', L', rfl, x1, x2, x3, x4⟩
    | none =>
      have hlow := best_none F hA
      have b2 : best false (fun i => L i && decide (1 ≤ atI am 2 i ∧ atI am 2 i ≤ v)) (atI am 2) F = best false (fun i => L i && decide (atI ac 2 i ≤ 57600)) (atI ac 2) F := best_congr F (fun i hi => ⟨by
        show (L i && decide _) = (L i && decide _)
        rw [← hx 2 i (by omega) hi]
        have h1 : (L i && decide (v ≤ atI ac 2 i)) = false := hlow i hi
        have h2 := hok i hi
        cases hL : L i with
        | false => rfl
        | true =>
          rw [hL, Bool.true_and] at h1
          have := of_decide_eq_false h1
          rw [decide_eq_true (by omega), decide_eq_true (by omega)], (hx 2 i (by omega) hi).symm⟩)
      rw [b2]
      have t1 : iI ((none : Option Int).getD (-1)) = -1 := by decide
      have t2 : ¬ iI v ≤ iI ((none : Option Int).getD (v - 1)) := mt (iI_le (b := v - 1) (by omega) (by omega)).mp (by omega)
      rw [if_pos t1, if_neg t2]
      cases hB : best false (fun i => L i && decide (atI ac 2 i ≤ 57600)) (atI ac 2) F with
      | some b =>
        obtain ⟨lc', r, lm', L', x1, x2, x3, x4⟩ := same (iI b)
        exact ⟨iI b, lc', r, lm', L', rfl, x1, x2, x3, x4⟩
      | none =>
        obtain ⟨lc', e1, e2⟩ := kp_c (N := N) (a := 2) (v := -1) (ac := ac) hN hF (by omega) ho hl
        obtain ⟨lm', r1, r2⟩ := st_m (N := N) (a := 2) (v := 0) (am := am) hN hF (by omega) hm hl2
        have f1 : ∀ i, i < F → (fun i => decide (ac (7 * i + 2) = (-1 : Int32))) i = false := fun i hi => decide_eq_false (fun hq => by
          have := hok i hi; unfold atI at this; rw [hq] at this; exact absurd this.1 (by decide))
        have f2 : ∀ i, i < F → (fun i => decide (am (7 * i + 2) = (0 : Int32))) i = false := fun i hi => decide_eq_false (fun hq => by
          have := hok i hi; rw [hx 2 i (by omega) hi] at this; unfold atI at this; rw [hq] at this; exact absurd this.1 (by decide))
        have r1' : ex_mShelf_strike N om lm am 2 (iI ((none : Option Int).getD (1 - 1))) = _ := r1
        have e1' : ex_FontShelf_keepThose N o lc ac 2 (iI ((none : Option Int).getD (-1))) = _ := e1
        rw [r1']
        exact ⟨_, lc', _, lm', L, rfl, e1', rfl, fun i hi => by rw [e2 i hi, strL_none f1], fun i hi => by rw [r2 i hi, strL_none f2]⟩
  · left
    refine ⟨ev, ?_⟩
    cases hb : best true (fun i => L i && decide (1 ≤ atI am 1 i ∧ atI am 1 i ≤ 1)) (atI am 1) F with
    | none =>
      exfalso
      have h1 : (L i && decide (1 ≤ atI am 1 i ∧ atI am 1 i ≤ 1)) = false := best_none F hb i hi
      rw [hLi, Bool.true_and] at h1
      have h2 := of_decide_eq_false h1
      rw [← hx 1 i (by omega) hi] at h2
      have h3 := hok1 i hi
      have h4 : atI ac 1 i = 0 := by omega
      exact hne (by have := iI_self (ac (7 * i + 1)); unfold atI at h4; rw [h4] at this; exact this.symm)
    | some b =>
      obtain ⟨j, hj1, hj2, hj3⟩ := best_in F b hb
      have hj2' : (L j && decide (1 ≤ atI am 1 j ∧ atI am 1 j ≤ 1)) = true := hj2
      have hd := of_decide_eq_true (Bool.and_eq_true _ _ ▸ hj2' : L j = true ∧ decide (1 ≤ atI am 1 j ∧ atI am 1 j ≤ 1) = true).2
      have hb1 : b = 1 := by omega
      rw [hb1, if_pos (show iI ((some (1 : Int)).getD (1 - 1)) = 1 by decide)]
theorem sl_last {N F : Nat} {o : ob_FontShelf} {om : ob_mShelf} {lc lm pc pm : Nat → Int32} {r : Int32} {L : Nat → Bool} (hN : 1000 < N) (hF : F ≤ 32) (ho : fd_FontShelf_fonts o = nI F) (hm : fd_mShelf_fonts om = nI F) (hp : agree F pc pm) (hl : lfR F L lc) (hl2 : lfR F L lm) :
    ∃ z, ex_FontShelf_lastLeft N o lc pc = some z ∧ (lp_mShelf_choose_200n13 om pm (lm, r) N 0 (-1) (-1)).bind (fun out_331 => if (0 : Int32) ≤ out_331.1 then (jn_mShelf_choose_275r17 (lm, r) out_331.1) else (jn_mShelf_choose_275r17 (lm, r) out_331.2)) = some (lm, z) ∧ (z = -1 ∨ ∃ s, s < F ∧ z = nI s) := by
  have lp : ∀ (m fu fu2 k : Nat) (A B : Int32), F - k = m → m < fu → m < fu2 → k ≤ F → (A = -1 ∨ ∃ s, s < F ∧ A = nI s) → (B = -1 ∨ ∃ s, s < F ∧ B = nI s) → ∃ A' B', lp_FontShelf_lastLeft_6 o lc pc fu (nI k) A B = some (A', B') ∧ lp_mShelf_choose_200n13 om pm (lm, r) fu2 (nI k) A B = some (A', B') ∧ (A' = -1 ∨ ∃ s, s < F ∧ A' = nI s) ∧ (B' = -1 ∨ ∃ s, s < F ∧ B' = nI s) := by
    intro m
    induction m with
    | zero =>
      intro fu fu2 k A B hm' hf hf2 hk hA hB
      obtain ⟨fu, rfl⟩ : ∃ z, fu = z + 1 := ⟨fu - 1, by omega⟩
      obtain ⟨fu2, rfl⟩ : ∃ z, fu2 = z + 1 := ⟨fu2 - 1, by omega⟩
      refine ⟨A, B, ?_, ?_, hA, hB⟩
      · rw [lp_FontShelf_lastLeft_6, ho, if_pos (nI_le (show F ≤ k by omega) (by omega))]
      · rw [lp_mShelf_choose_200n13, hm, if_pos (nI_le (show F ≤ k by omega) (by omega))]
    | succ m ih =>
      intro fu fu2 k A B hm' hf hf2 hk hA hB
      obtain ⟨fu, rfl⟩ : ∃ z, fu = z + 1 := ⟨fu - 1, by omega⟩
      obtain ⟨fu2, rfl⟩ : ∃ z, fu2 = z + 1 := ⟨fu2 - 1, by omega⟩
      have hcl : (nI k).toNatClampNeg = k := nI_clamp (by omega)
      have i32 : dk_in (nI k) 32 := dk_in_nI (by omega) (by omega)
      have i33 : dk_in (nI k) 33 := dk_in_nI (by omega) (by omega)
      have hkk : nI k = -1 ∨ ∃ s, s < F ∧ nI k = nI s := Or.inr ⟨k, by omega, rfl⟩
      rw [lp_FontShelf_lastLeft_6, lp_mShelf_choose_200n13, ho, hm, if_neg (nI_ge (show k < F by omega) (by omega)), if_neg (nI_ge (show k < F by omega) (by omega)), if_neg (show ¬ (32 : Int32) ≤ nI k from nI_ge (b := 32) (by omega) (by omega)), if_pos i32, if_pos i32]
      unfold jn_mShelf_choose_226o14 jn_mShelf_choose_253q16 jn_mShelf_choose_255p15
      simp only []
      rw [if_pos i32, if_pos i33, if_pos i32, nI_1]
      cases hL : L k with
      | false =>
        have z1 : lc (nI k).toNatClampNeg = 0 := by rw [hcl, hl k (by omega), hL]; rfl
        have z2 : lm (nI k).toNatClampNeg = 0 := by rw [hcl, hl2 k (by omega), hL]; rfl
        rw [if_pos z1, if_pos z2, if_pos z2]
        exact ih fu fu2 (k + 1) A B (by omega) (by omega) (by omega) (by omega) hA hB
      | true =>
        have z1 : ¬ lc (nI k).toNatClampNeg = 0 := by rw [hcl, hl k (by omega), hL]; decide
        have z2 : ¬ lm (nI k).toNatClampNeg = 0 := by rw [hcl, hl2 k (by omega), hL]; decide
        rw [if_neg z1, if_neg z2, if_neg z2]
        by_cases q : pc k = 0
        · have p1 : pc (nI k).toNatClampNeg = 0 := by rw [hcl]; exact q
          have p2 : pm (nI k).toNatClampNeg = 0 := by rw [hcl, ← hp k (by omega)]; exact q
          rw [if_pos p1, if_pos p2, if_pos i32, if_pos i33]
          exact ih fu fu2 (k + 1) (nI k) (nI k) (by omega) (by omega) (by omega) (by omega) hkk hkk
        · have p1 : ¬ pc (nI k).toNatClampNeg = 0 := by rw [hcl]; exact q
          have p2 : ¬ pm (nI k).toNatClampNeg = 0 := by rw [hcl, ← hp k (by omega)]; exact q
          rw [if_neg p1, if_neg p2, if_pos i32, if_pos i33]
          exact ih fu fu2 (k + 1) A (nI k) (by omega) (by omega) (by omega) (by omega) hA hkk
  obtain ⟨A', B', e1, e2, e3, e4⟩ := lp F N N 0 (-1) (-1) rfl (by omega) (by omega) (by omega) (Or.inl rfl) (Or.inl rfl)
  have e1' : lp_FontShelf_lastLeft_6 o lc pc N 0 (-1) (-1) = some (A', B') := e1
  have e2' : lp_mShelf_choose_200n13 om pm (lm, r) N 0 (-1) (-1) = some (A', B') := e2
  unfold ex_FontShelf_lastLeft jn_mShelf_choose_275r17
  rw [e1', e2']
  simp only [Option.bind_some]
  rcases e3 with rfl | ⟨s, hs, rfl⟩
  · rw [if_pos rfl, if_neg (show ¬ (0 : Int32) ≤ -1 by decide)]
    exact ⟨B', rfl, rfl, e4⟩
  · have n1 : ¬ nI s = -1 := fun hh => absurd (hh ▸ (show ¬ nI s < 0 from nI_pos (by omega))) (by decide)
    rw [if_neg n1, if_pos (show (0 : Int32) ≤ nI s from nI_le (a := 0) (by omega) (by omega))]
    exact ⟨nI s, rfl, rfl, Or.inr ⟨s, hs, rfl⟩⟩
theorem best_le {P : Nat → Bool} {x : Nat → Int} : ∀ n b, best true P x n = some b → ∀ i, i < n → P i = true → b ≤ x i := by
  intro n
  induction n with
  | zero => intro b _ i hi; omega
  | succ n ih =>
    intro b h i hi hPi
    cases hP : P n with
    | false =>
      rw [bs_off hP] at h
      have : i ≠ n := fun hq => by rw [hq, hP] at hPi; exact absurd hPi (by decide)
      exact ih b h i (by omega) hPi
    | true =>
      cases hb : best true P x n with
      | none =>
        rw [bs_none hP hb] at h
        have hxb : x n = b := Option.some.inj h
        by_cases q : i = n
        · subst q; omega
        · have := best_none n hb i (by omega); rw [this] at hPi; exact absurd hPi (by decide)
      | some c =>
        rw [bs_some hP hb] at h
        have hc := ih c hb
        by_cases q : x n < c
        · have h' : some (x n) = some b := (if_pos (show (if true then x n < c else c < x n) from q)).symm.trans h
          have hxb : x n = b := Option.some.inj h'
          by_cases qi : i = n
          · subst qi; omega
          · have := hc i (by omega) hPi; omega
        · have h' : some c = some b := (if_neg (show ¬ (if true then x n < c else c < x n) from q)).symm.trans h
          have hxb : c = b := Option.some.inj h'
          by_cases qi : i = n
          · subst qi; omega
          · have := hc i (by omega) hPi; omega
theorem best_ge {P : Nat → Bool} {x : Nat → Int} : ∀ n b, best false P x n = some b → ∀ i, i < n → P i = true → x i ≤ b := by
  intro n
  induction n with
  | zero => intro b _ i hi; omega
  | succ n ih =>
    intro b h i hi hPi
    cases hP : P n with
    | false =>
      rw [bs_off hP] at h
      have : i ≠ n := fun hq => by rw [hq, hP] at hPi; exact absurd hPi (by decide)
      exact ih b h i (by omega) hPi
    | true =>
      cases hb : best false P x n with
      | none =>
        rw [bs_none hP hb] at h
        have hxb : x n = b := Option.some.inj h
        by_cases q : i = n
        · subst q; omega
        · have := best_none n hb i (by omega); rw [this] at hPi; exact absurd hPi (by decide)
      | some c =>
        rw [bs_some hP hb] at h
        have hc := ih c hb
        by_cases q : c < x n
        · have h' : some (x n) = some b := (if_pos (show (if false then x n < c else c < x n) from q)).symm.trans h
          have hxb : x n = b := Option.some.inj h'
          by_cases qi : i = n
          · subst qi; omega
          · have := hc i (by omega) hPi; omega
        · have h' : some c = some b := (if_neg (show ¬ (if false then x n < c else c < x n) from q)).symm.trans h
          have hxb : c = b := Option.some.inj h'
          by_cases qi : i = n
          · subst qi; omega
          · have := hc i (by omega) hPi; omega
theorem any_c {N F a : Nat} {v : Int32} {o : ob_FontShelf} {lc ac : Nat → Int32} {L : Nat → Bool} (hN : 1000 < N) (hF : F ≤ 32) (ha : a < 7) (ho : fd_FontShelf_fonts o = nI F) (hl : lfR F L lc) :
    (ex_FontShelf_anyLeft N o lc ac (nI a) v = some 1 ∧ ∃ i, i < F ∧ L i = true ∧ ac (7 * i + a) = v) ∨ (ex_FontShelf_anyLeft N o lc ac (nI a) v = some 0 ∧ ∀ i, i < F → L i = true → ac (7 * i + a) ≠ v) := by
  have lp : ∀ (m fu k : Nat), F - k = m → m < fu → k ≤ F → (lp_FontShelf_anyLeft_2 N o lc ac (nI a) v fu (nI k) = some (Sum.inr 1) ∧ ∃ i, i < F ∧ L i = true ∧ ac (7 * i + a) = v) ∨ (lp_FontShelf_anyLeft_2 N o lc ac (nI a) v fu (nI k) = some (Sum.inl ()) ∧ ∀ i, k ≤ i → i < F → L i = true → ac (7 * i + a) ≠ v) := by
    intro m
    induction m with
    | zero =>
      intro fu k hm hf hk
      obtain ⟨fu, rfl⟩ : ∃ z, fu = z + 1 := ⟨fu - 1, by omega⟩
      exact Or.inr ⟨by rw [lp_FontShelf_anyLeft_2, ho, if_pos (nI_le (show F ≤ k by omega) (by omega))], fun i h1 h2 => by omega⟩
    | succ m ih =>
      intro fu k hm hf hk
      obtain ⟨fu, rfl⟩ : ∃ z, fu = z + 1 := ⟨fu - 1, by omega⟩
      have hcl : (nI k).toNatClampNeg = k := nI_clamp (by omega)
      rw [lp_FontShelf_anyLeft_2, ho, if_neg (nI_ge (show k < F by omega) (by omega)), if_neg (show ¬ (32 : Int32) ≤ nI k from nI_ge (b := 32) (by omega) (by omega)), if_pos (dk_in_nI (by omega) (by omega)), nI_1, fs_att (by omega) ha]
      simp only [Option.bind_some]
      cases hL : L k with
      | false =>
        rw [if_pos (by rw [hcl, hl k (by omega), hL]; rfl)]
        rcases ih fu (k + 1) (by omega) (by omega) (by omega) with h1 | ⟨h1, h2⟩
        · exact Or.inl h1
        · exact Or.inr ⟨h1, fun i hi hi2 hi3 => by
            by_cases q : i = k
            · subst q; rw [hL] at hi3; exact absurd hi3 (by decide)
            · exact h2 i (by omega) hi2 hi3⟩
      | true =>
        rw [if_neg (by rw [hcl, hl k (by omega), hL]; decide)]
        by_cases q0 : ac (7 * k + a) = v
        · rw [if_pos q0]; exact Or.inl ⟨rfl, k, by omega, hL, q0⟩
        · rw [if_neg q0]
          rcases ih fu (k + 1) (by omega) (by omega) (by omega) with h1 | ⟨h1, h2⟩
          · exact Or.inl h1
          · exact Or.inr ⟨h1, fun i hi hi2 hi3 => by
              by_cases q : i = k
              · subst q; exact q0
              · exact h2 i (by omega) hi2 hi3⟩
  unfold ex_FontShelf_anyLeft
  rcases lp F N 0 rfl (by omega) (by omega) with ⟨h1, h2⟩ | ⟨h1, h2⟩
  · have h1' : lp_FontShelf_anyLeft_2 N o lc ac (nI a) v N 0 = _ := h1
    rw [h1']; exact Or.inl ⟨rfl, h2⟩
  · have h1' : lp_FontShelf_anyLeft_2 N o lc ac (nI a) v N 0 = _ := h1
    rw [h1']; exact Or.inr ⟨rfl, fun i hi => h2 i (by omega) hi⟩
/-- a search by steps of one, 14 at most -/
theorem lp_first (lp : Nat → Int32 → Option (Unit ⊕ Int32)) (A : Nat → Prop) (w : Nat → Int32) (h : ∀ n k, k ≤ 14 → (A k ∧ lp (n + 1) (nI k) = some (Sum.inr (w k))) ∨ (¬ A k ∧ lp (n + 1) (nI k) = lp n (nI (k + 1)))) (hend : ∀ n, lp (n + 1) (nI 15) = some (Sum.inl ())) : ∀ (m fu k : Nat), 15 - k = m → m < fu → k ≤ 15 → (∃ j, k ≤ j ∧ j ≤ 14 ∧ A j ∧ (∀ i, k ≤ i → i < j → ¬ A i) ∧ lp fu (nI k) = some (Sum.inr (w j))) ∨ ((∀ j, k ≤ j → j ≤ 14 → ¬ A j) ∧ lp fu (nI k) = some (Sum.inl ())) := by
  intro m
  induction m with
  | zero =>
    intro fu k hm hf hk
    obtain ⟨fu, rfl⟩ : ∃ z, fu = z + 1 := ⟨fu - 1, by omega⟩
    have : k = 15 := by omega
    subst this
    exact Or.inr ⟨fun j h1 h2 => by omega, hend fu⟩
  | succ m ih =>
    intro fu k hm hf hk
    obtain ⟨fu, rfl⟩ : ∃ z, fu = z + 1 := ⟨fu - 1, by omega⟩
    rcases h fu k (by omega) with ⟨a1, a2⟩ | ⟨a1, a2⟩
    · exact Or.inl ⟨k, Nat.le_refl _, by omega, a1, fun i h1 h2 => by omega, a2⟩
    · rw [a2]
      rcases ih fu (k + 1) (by omega) (by omega) (by omega) with ⟨j, j1, j2, j3, j4, j5⟩ | ⟨j1, j2⟩
      · exact Or.inl ⟨j, by omega, j2, j3, fun i h1 h2 => by
          by_cases q : i = k
          · subst q; exact a1
          · exact j4 i (by omega) h2, j5⟩
      · exact Or.inr ⟨fun j h1 h2 => by
          by_cases q : j = k
          · subst q; exact a1
          · exact j1 j (by omega) h2, j2⟩
theorem wt_lp {N F : Nat} {v s : Int} {o : ob_FontShelf} {lc ac : Nat → Int32} {L : Nat → Bool} (lp : Nat → Int32 → Option (Unit ⊕ Int32)) (hN : 1000 < N) (hF : F ≤ 32) (ho : fd_FontShelf_fonts o = nI F) (hl : lfR F L lc) (hok : ∀ i, i < F → -7 ≤ atI ac 5 i ∧ atI ac 5 i ≤ 7) (hv : -7 ≤ v ∧ v ≤ 7) (hs : s = 1 ∨ s = -1)
    (hstep : ∀ n k : Nat, k ≤ 14 → lp (n + 1) (nI k) = (ex_FontShelf_anyLeft N o lc ac 5 (iI (v + s * k))).bind fun u => if u = 0 then lp n (nI (k + 1)) else some (Sum.inr (iI (v + s * k)))) (hend : ∀ n, lp (n + 1) (nI 15) = some (Sum.inl ())) :
    (∃ b, best (decide (s = 1)) (fun i => L i && decide (0 < s * (atI ac 5 i - v))) (atI ac 5) F = some b ∧ lp N 1 = some (Sum.inr (iI b))) ∨ (best (decide (s = 1)) (fun i => L i && decide (0 < s * (atI ac 5 i - v))) (atI ac 5) F = none ∧ lp N 1 = some (Sum.inl ())) := by
  have hsr : ∀ k : Nat, k ≤ 14 → -100 ≤ s * (k : Int) ∧ s * (k : Int) ≤ 100 := fun k hk => by rcases hs with rfl | rfl <;> omega
  have step : ∀ n k : Nat, k ≤ 14 → ((∃ i, i < F ∧ L i = true ∧ atI ac 5 i = v + s * k) ∧ lp (n + 1) (nI k) = some (Sum.inr (iI (v + s * k)))) ∨ (¬ (∃ i, i < F ∧ L i = true ∧ atI ac 5 i = v + s * k) ∧ lp (n + 1) (nI k) = lp n (nI (k + 1))) := by
    intro n k hk
    have hr := hsr k hk
    rw [hstep n k hk]
    rcases any_c (N := N) (a := 5) (v := iI (v + s * k)) (ac := ac) hN hF (by omega) ho hl with ⟨h1, i, h2, h3, h4⟩ | ⟨h1, h2⟩
    · have h1' : ex_FontShelf_anyLeft N o lc ac 5 (iI (v + s * k)) = some 1 := h1
      refine Or.inl ⟨⟨i, h2, h3, ?_⟩, ?_⟩
      · unfold atI; rw [h4, iI_toInt (by omega)]
      · rw [h1']; rfl
    · have h1' : ex_FontShelf_anyLeft N o lc ac 5 (iI (v + s * k)) = some 0 := h1
      refine Or.inr ⟨fun ⟨i, i1, i2, i3⟩ => h2 i i1 i2 ?_, ?_⟩
      · rw [← i3]; unfold atI; exact (iI_self _).symm
      · rw [h1']; rfl
  have key := lp_first lp (fun k => ∃ i, i < F ∧ L i = true ∧ atI ac 5 i = v + s * (k : Int)) (fun k => iI (v + s * (k : Int))) step hend 14 N 1 rfl (by omega) (by omega)
  cases hb : best (decide (s = 1)) (fun i => L i && decide (0 < s * (atI ac 5 i - v))) (atI ac 5) F with
  | some b =>
    obtain ⟨i, i1, i2, i3⟩ := best_in F b hb
    have i2' : (L i && decide (0 < s * (atI ac 5 i - v))) = true := i2
    rw [Bool.and_eq_true] at i2'
    have i4 : 0 < s * (atI ac 5 i - v) := of_decide_eq_true i2'.2
    have hi := hok i i1
    rw [i3] at i4 hi
    left
    refine ⟨b, rfl, ?_⟩
    rcases key with ⟨j, j1, j2, ⟨i', a1, a2, a3⟩, j4, j5⟩ | ⟨k1, k2⟩
    · have hj : b = v + s * (j : Int) := by
        rcases hs with rfl | rfl
        · have hle := best_le F b hb i' a1 (by show (L i' && decide _) = true; rw [a2, decide_eq_true (by omega)]; rfl)
          have hjj : ¬ (b - v).toNat < j := fun hq => j4 (b - v).toNat (by omega) hq ⟨i, i1, i2'.1, by omega⟩
          omega
        · have hle := best_ge F b hb i' a1 (by show (L i' && decide _) = true; rw [a2, decide_eq_true (by omega)]; rfl)
          have hjj : ¬ (v - b).toNat < j := fun hq => j4 (v - b).toNat (by omega) hq ⟨i, i1, i2'.1, by omega⟩
          omega
      rw [hj]; exact j5
    · exfalso
      rcases hs with rfl | rfl
      · exact k1 (b - v).toNat (by omega) (by omega) ⟨i, i1, i2'.1, by omega⟩
      · exact k1 (v - b).toNat (by omega) (by omega) ⟨i, i1, i2'.1, by omega⟩
  | none =>
    right
    refine ⟨rfl, ?_⟩
    rcases key with ⟨j, j1, j2, ⟨i', a1, a2, a3⟩, j4, j5⟩ | ⟨k1, k2⟩
    · exfalso
      have hn := best_none F hb i' a1
      have hn' : (L i' && decide (0 < s * (atI ac 5 i' - v))) = false := hn
      rw [a2, decide_eq_true (by rcases hs with rfl | rfl <;> omega)] at hn'
      exact absurd hn' (by decide)
    · exact k2
theorem anyL_false {L f : Nat → Bool} : ∀ n, anyL L f n = false → ∀ i, i < n → L i = true → f i = false := by
  intro n
  induction n with
  | zero => intro _ i hi; omega
  | succ n ih =>
    intro h i hi hL
    have h' : (anyL L f n || (L n && f n)) = false := h
    rw [Bool.or_eq_false_iff] at h'
    by_cases q : i = n
    · subst q; have := h'.2; rw [hL] at this; simpa using this
    · exact ih h'.1 i (by omega) hL
theorem strL_off {F : Nat} {L f : Nat → Bool} (h : anyL L f F = false) : ∀ i, strL F L f i = L i := by
  intro i; unfold strL; rw [h]; simp
theorem wt_m1 (k : Nat) : (-1 : Int32) * nI k = iI (-1 * (k : Int)) := by rw [nI_iI, show (-1 : Int32) = iI (-1) from by decide, iI_mul]
theorem wt_p1 (k : Nat) : (1 : Int32) * nI k = iI (1 * (k : Int)) := by rw [nI_iI, show (1 : Int32) = iI 1 from by decide, iI_mul]
/-- the class's best weight -/
theorem wt_c {N F : Nat} {v : Int} {o : ob_FontShelf} {lc ac : Nat → Int32} {L : Nat → Bool} (hN : 1000 < N) (hF : F ≤ 32) (ho : fd_FontShelf_fonts o = nI F) (hl : lfR F L lc) (hok : ∀ i, i < F → -7 ≤ atI ac 5 i ∧ atI ac 5 i ≤ 7) (hv : -7 ≤ v ∧ v ≤ 7) :
    ex_FontShelf_bestWeight N o ac lc (iI v) = some (iI (if v < 0 then (match best false (fun i => L i && decide (0 < -1 * (atI ac 5 i - v))) (atI ac 5) F with | some b => b | none => (best true (fun i => L i && decide (0 < 1 * (atI ac 5 i - v))) (atI ac 5) F).getD v) else (match best true (fun i => L i && decide (0 < 1 * (atI ac 5 i - v))) (atI ac 5) F with | some b => b | none => (best false (fun i => L i && decide (0 < -1 * (atI ac 5 i - v))) (atI ac 5) F).getD v))) := by
  have i14 : ∀ k, k ≤ 14 → ¬ (14 : Int32) < nI k := fun k hk => by rw [show (14 : Int32) = nI 14 from rfl, nI_iI, nI_iI, iI_lt (by omega) (by omega)]; omega
  have i15 : (14 : Int32) < nI 15 := by decide
  have a1 := wt_lp (s := -1) (v := v) (lp_FontShelf_bestWeight_12 N o ac lc (iI v)) hN hF ho hl hok hv (Or.inr rfl) (fun n k hk => by rw [lp_FontShelf_bestWeight_12, if_neg (i14 k hk), wt_m1, iI_add, nI_1]) (fun n => by rw [lp_FontShelf_bestWeight_12, if_pos i15])
  have a2 := wt_lp (s := 1) (v := v) (lp_FontShelf_bestWeight_54c2 N o ac lc (iI v)) hN hF ho hl hok hv (Or.inl rfl) (fun n k hk => by rw [lp_FontShelf_bestWeight_54c2, if_neg (i14 k hk), wt_m1, iI_sub, nI_1, show v - -1 * (k : Int) = v + 1 * (k : Int) by omega]) (fun n => by rw [lp_FontShelf_bestWeight_54c2, if_pos i15])
  have a3 := wt_lp (s := 1) (v := v) (lp_FontShelf_bestWeight_12d3 N o ac lc (iI v)) hN hF ho hl hok hv (Or.inl rfl) (fun n k hk => by rw [lp_FontShelf_bestWeight_12d3, if_neg (i14 k hk), wt_p1, iI_add, nI_1]) (fun n => by rw [lp_FontShelf_bestWeight_12d3, if_pos i15])
  have a4 := wt_lp (s := -1) (v := v) (lp_FontShelf_bestWeight_54e4 N o ac lc (iI v)) hN hF ho hl hok hv (Or.inr rfl) (fun n k hk => by rw [lp_FontShelf_bestWeight_54e4, if_neg (i14 k hk), wt_p1, iI_sub, nI_1, show v - 1 * (k : Int) = v + -1 * (k : Int) by omega]) (fun n => by rw [lp_FontShelf_bestWeight_54e4, if_pos i15])
  rw [show decide ((-1 : Int) = 1) = false from rfl] at a1 a4
  rw [show decide ((1 : Int) = 1) = true from rfl] at a2 a3
  unfold ex_FontShelf_bestWeight
  by_cases q : v < 0
  · rw [if_pos (show iI v < 0 from (iI_lt (b := 0) (by omega) (by omega)).mpr q), if_pos q]
    rcases a1 with ⟨b, b1, b2⟩ | ⟨b1, b2⟩
    · rw [b1, b2]; rfl
    · rw [b1, b2]
      rcases a2 with ⟨b, c1, c2⟩ | ⟨c1, c2⟩
      · rw [c1]; show dk_elim (lp_FontShelf_bestWeight_54c2 N o ac lc (iI v) N 1) _ _ = _; rw [c2]; rfl
      · rw [c1]; show dk_elim (lp_FontShelf_bestWeight_54c2 N o ac lc (iI v) N 1) _ _ = _; rw [c2]; rfl
  · rw [if_neg (show ¬ iI v < 0 from mt (iI_lt (b := 0) (by omega) (by omega)).mp q), if_neg q]
    rcases a3 with ⟨b, b1, b2⟩ | ⟨b1, b2⟩
    · rw [b1, b2]; rfl
    · rw [b1, b2]
      rcases a4 with ⟨b, c1, c2⟩ | ⟨c1, c2⟩
      · rw [c1]; show dk_elim (lp_FontShelf_bestWeight_54e4 N o ac lc (iI v) N 1) _ _ = _; rw [c2]; rfl
      · rw [c1]; show dk_elim (lp_FontShelf_bestWeight_54e4 N o ac lc (iI v) N 1) _ _ = _; rw [c2]; rfl
