def inM (r : Nat) (X Y : Int) (W D sc x y : Nat) : Bool := decide (0 ≤ pM r X Y x y ∧ pM r X Y x y < sc * W ∧ 0 ≤ qM r X Y x y ∧ qM r X Y x y < sc * D)
/-- a mark laid on a dot of the sheet -/
def layM (gd : Nat → Int32) (X Y : Int) (W D B r sc kd nu : Nat) (io so ab : Bool) (old : Bool) (x y : Nat) : Bool := if inM r X Y W D sc x y then layB old (srcM gd W B r sc X Y ab x y) (inkB kd nu x y) so io else old
theorem pl_tail {N a y row nb wide : Nat} {X Y : Int} {W D B r sc kd nu : Nat} {io so ab : Bool} {o : ob_Sheet} {op : ob_Page} {g gd : Nat → Int32} {b0 : Nat → Int64} {lm : Int} {br : Nat} (hN : 200 < N) (ha : a + 6 ≤ 24576) (hR : mkR g a X Y W D B r sc kd nu io so ab) (hB : mkB X Y W D B r sc kd nu ab) (hy : y < 2 ^ 20) (hwide : wide ≤ 10000) (hop : ex_Page_wide N op = some (nI wide)) (hrow : row + (wide + 63) / 64 ≤ nb) (hnb : nb < 2 ^ 31)
    (hlm : -1200000000 ≤ lm ∧ lm ≤ 1200000000) (hbr : br ≤ 40000) (hdn : ∀ x, x < wide → (inM r X Y W D sc x y = true ↔ lm ≤ x ∧ (x : Int) < lm + br)) :
      ∃ b', dk_let (if (0 : Int32) < iI lm then iI lm else (0 : Int32) : Int32) (fun y5 => (ex_Page_wide N op).bind (fun u => dk_let (if iI (lm + br) < u then iI (lm + br) else u : Int32) (fun y9 => if y5 < y9 then ((ex_Sheet_inkWord N (nI kd) (nI nu) (nI y)).bind (fun u2 => (lp_Sheet_paintLine_135e4 N o g gd nb (nI a) (nI y) (nI row) y9 y5 u2 N (y5 / 64) b0).bind (fun out => some out))) else (some b0)))) = some b' ∧ (∀ k, (k < row ∨ row + (wide + 63) / 64 ≤ k) → b' k = b0 k) ∧ (∀ x, x < wide → wdots b' row x = layM gd X Y W D B r sc kd nu io so ab (wdots b0 row x) x y) := by
  have b5 := hB.2.2.2.2.1
  have b6 := hB.2.2.2.2.2.1
  simp only [dk_let]
  rw [hop]
  simp only [Option.bind_some]
  have hc1 : (0 : Int32) < iI lm ↔ (0 : Int) < lm := iI_lt (a := 0) (by omega) (by omega)
  have hc2 : iI (lm + br) < nI wide ↔ lm + br < (wide : Int) := by rw [nI_iI]; exact iI_lt (by omega) (by omega)
  have e1 : (if (0 : Int32) < iI lm then iI lm else (0 : Int32)) = nI lm.toNat := by
    by_cases q : 0 < lm
    · rw [if_pos (hc1.mpr q), iI_nat (by omega)]
    · rw [if_neg (mt hc1.mp q), show lm.toNat = 0 by omega]; rfl
  obtain ⟨tz, htz⟩ : ∃ tz : Int, tz = if lm + br < (wide : Int) then lm + br else wide := ⟨_, rfl⟩
  have htz2 : tz = lm + br ∧ lm + br < (wide : Int) ∨ tz = wide ∧ (wide : Int) ≤ lm + br := by rw [htz]; split <;> omega
  have e2 : (if iI (lm + br) < nI wide then iI (lm + br) else nI wide) = iI tz := by
    by_cases q : lm + br < (wide : Int)
    · rw [if_pos (hc2.mpr q), htz, if_pos q]
    · rw [if_neg (mt hc2.mp q), htz, if_neg q]; rfl
  rw [e1, e2]
  have hc3 : nI lm.toNat < iI tz ↔ (lm.toNat : Int) < tz := by rw [nI_iI]; exact iI_lt (by omega) (by omega)
  by_cases q : (lm.toNat : Int) < tz
  · rw [if_pos (hc3.mpr q)]
    obtain ⟨ink, k1, k2⟩ := sm_inkWord (N := N) (kd := kd) (s := nu) (y := y) (by omega) b5.2.2.2.1 (by have := b5.2.2.2.2; omega) b6 (by omega)
    rw [k1]
    simp only [Option.bind_some]
    obtain ⟨t, rfl⟩ : ∃ t : Nat, tz = t := ⟨tz.toNat, by omega⟩
    have e64 : nI lm.toNat / 64 = nI (lm.toNat / 64) := nI_div (b := 64) (by omega) (by omega)
    have hl := pl_loop (N := N) (o := o) (gd := gd) (b0 := b0) (wide := wide) (f := lm.toNat) (t := t) (row := row) (nb := nb) hN ha hR hB hy (by omega) (by omega) hwide hrow hnb k2 (fun hab x h1 h2 => by
      have := (hdn x (by omega)).mpr (by omega)
      unfold inM at this; exact of_decide_eq_true this) ((t - 1) / 64 + 1 - lm.toNat / 64) N (lm.toNat / 64) b0 rfl (by omega) (Nat.le_refl _) (by omega) (fun k => by split <;> rfl) (fun x hx => by rw [if_neg (by omega)])
    obtain ⟨b', p1, p2, p3⟩ := hl
    have p1' : lp_Sheet_paintLine_135e4 N o g gd nb (nI a) (nI y) (nI row) (iI (t : Int)) (nI lm.toNat) ink N (nI (lm.toNat / 64)) b0 = some b' := p1
    rw [e64, p1']
    refine ⟨b', rfl, p2, fun x hx => ?_⟩
    rw [p3 x hx]
    unfold layM
    by_cases c : inM r X Y W D sc x y = true
    · have := (hdn x hx).mp c
      rw [if_pos c, if_pos (by omega)]
    · have h3 := mt (hdn x hx).mpr c
      rw [if_neg c, if_neg (by omega)]
  · rw [if_neg (mt hc3.mp q)]
    refine ⟨b0, rfl, fun k _ => rfl, fun x hx => ?_⟩
    unfold layM
    have c : ¬ inM r X Y W D sc x y = true := by
      intro c
      have := (hdn x hx).mp c
      omega
    rw [if_neg c]
theorem pl_line {N a y row nb wide : Nat} {X Y : Int} {W D B r sc kd nu : Nat} {io so ab : Bool} {o : ob_Sheet} {op : ob_Page} {g gd : Nat → Int32} {b0 : Nat → Int64} (hN : 200 < N) (ha : a + 6 ≤ 24576) (hR : mkR g a X Y W D B r sc kd nu io so ab) (hB : mkB X Y W D B r sc kd nu ab) (hy : y < 2 ^ 20) (hwide : wide ≤ 10000) (hop : ex_Page_wide N op = some (nI wide)) (hrow : row + (wide + 63) / 64 ≤ nb) (hnb : nb < 2 ^ 31)
    (hdn : 0 ≤ dwnM r Y y ∧ dwnM r Y y < (if r % 2 = 0 then sc * D else sc * W : Nat)) :
      ∃ b', ex_Sheet_paintLine N o g op gd nb b0 (nI a) (nI y) (nI row) = some b' ∧ (∀ k, (k < row ∨ row + (wide + 63) / 64 ≤ k) → b' k = b0 k) ∧ (∀ x, x < wide → wdots b' row x = layM gd X Y W D B r sc kd nu io so ab (wdots b0 row x) x y) := by
  have hR' := hR
  obtain ⟨r0, r1, r2, r3, r4, r5⟩ := hR'
  have hB' := hB
  obtain ⟨b1, b2, b3, b4, b5, b6, b7, b8, b9, b10⟩ := hB'
  have er := look_r (io := io) (so := so) (ab := ab) b5
  have esc := look_sc (io := io) (so := so) (ab := ab) b5
  have ekd := look_kd (io := io) (so := so) (ab := ab) b5
  have enu := look_nu (io := io) (so := so) (ab := ab) b5
  obtain ⟨k1, k2, k3, k4, k5⟩ := b5
  have c5 : (nI (a + 5)).toNatClampNeg = a + 5 := nI_clamp (by omega)
  have c2 : (nI (a + 2)).toNatClampNeg = a + 2 := nI_clamp (by omega)
  have c3 : (nI (a + 3)).toNatClampNeg = a + 3 := nI_clamp (by omega)
  have c0 : (nI a).toNatClampNeg = a := nI_clamp (by omega)
  have i5 : dk_in (nI (a + 5)) 24576 := dk_in_nI (by omega) (by omega)
  have i2 : dk_in (nI (a + 2)) 24576 := dk_in_nI (by omega) (by omega)
  have i3 : dk_in (nI (a + 3)) 24576 := dk_in_nI (by omega) (by omega)
  have i0 : dk_in (nI a) 24576 := dk_in_nI (by omega) (by omega)
  have a0 : nI a + 0 = nI a := nI_addL a 0
  have erm : (nI r &&& 1 = 0) ↔ r % 2 = 0 := by rw [nI_and1 (by omega)]; exact nI_eq0 (by omega)
  unfold ex_Sheet_paintLine
  simp only [a0, nI_addL, if_pos i5, if_pos i2, if_pos i3, if_pos i0, c5, c2, c3, c0, r5, r2, r3, r0, er, esc, ekd, enu, pl_same, nI_mul, dk_let]
  have hacr : ∀ x : Nat, acrM r X x = if 2 ≤ r then X - x else x - X := fun x => rfl
  -- the dots that are in, by the number across
  have hin : ∀ (br : Nat), br = (if r % 2 = 0 then sc * W else sc * D) → ∀ x, x < wide → (inM r X Y W D sc x y = true ↔ 0 ≤ acrM r X x ∧ acrM r X x < br) := by
    intro br hbr x hx
    unfold inM pM qM
    by_cases q : r % 2 = 0
    · rw [if_pos q] at hbr hdn
      rw [if_pos q, if_pos q, decide_eq_true_iff, hbr]
      constructor
      · intro h; exact ⟨h.1, h.2.1⟩
      · intro h; exact ⟨h.1, h.2, hdn.1, hdn.2⟩
    · rw [if_neg q] at hbr hdn
      rw [if_neg q, if_neg q, decide_eq_true_iff, hbr]
      constructor
      · intro h; exact ⟨h.2.2.1, h.2.2.2⟩
      · intro h; exact ⟨hdn.1, hdn.2, h.1, h.2⟩
  have lo : ∀ (br : Nat), br = (if r % 2 = 0 then sc * W else sc * D) → br ≤ 40000 → r < 2 → ∀ x, x < wide → (inM r X Y W D sc x y = true ↔ X ≤ x ∧ (x : Int) < X + br) := by
    intro br hbr _ h2 x hx
    rw [hin br hbr x hx, hacr, if_neg (by omega)]
    omega
  have hi : ∀ (br : Nat), br = (if r % 2 = 0 then sc * W else sc * D) → br ≤ 40000 → ¬ r < 2 → ∀ x, x < wide → (inM r X Y W D sc x y = true ↔ (X - br + 1) ≤ x ∧ (x : Int) < (X - br + 1) + br) := by
    intro br hbr _ h2 x hx
    rw [hin br hbr x hx, hacr, if_pos (by omega)]
    omega
  by_cases q : r % 2 = 0
  · have hbr : sc * W = (if r % 2 = 0 then sc * W else sc * D) := by rw [if_pos q]
    rw [if_pos (erm.mpr q)]
    by_cases q2 : r < 2
    · have t := pl_tail (N := N) (o := o) (gd := gd) (b0 := b0) (lm := X) (br := sc * W) hN ha hR hB hy hwide hop hrow hnb (by omega) b7 (lo (sc * W) hbr b7 q2)
      have e1 : iI X + nI (sc * W) = iI (X + (sc * W : Nat)) := by rw [nI_iI, iI_add]
      rw [if_pos (show nI r < 2 from nI_lt (b := 2) q2 (by omega)), e1]
      exact t
    · have t := pl_tail (N := N) (o := o) (gd := gd) (b0 := b0) (lm := X - (sc * W : Nat) + 1) (br := sc * W) hN ha hR hB hy hwide hop hrow hnb (by omega) b7 (hi (sc * W) hbr b7 q2)
      have e1 : iI X - nI (sc * W) + 1 = iI (X - (sc * W : Nat) + 1) := by rw [nI_iI, iI_sub, iI_lit, iI_add]; rfl
      have e2 : iI (X - (sc * W : Nat) + 1) + nI (sc * W) = iI (X - (sc * W : Nat) + 1 + (sc * W : Nat)) := by rw [nI_iI, iI_add]
      rw [if_neg (show ¬ nI r < 2 from nI_nlt (b := 2) (by omega) (by omega)), e1, e2]
      exact t
  · have hbr : sc * D = (if r % 2 = 0 then sc * W else sc * D) := by rw [if_neg q]
    rw [if_neg (mt erm.mp q)]
    by_cases q2 : r < 2
    · have t := pl_tail (N := N) (o := o) (gd := gd) (b0 := b0) (lm := X) (br := sc * D) hN ha hR hB hy hwide hop hrow hnb (by omega) b8 (lo (sc * D) hbr b8 q2)
      have e1 : iI X + nI (sc * D) = iI (X + (sc * D : Nat)) := by rw [nI_iI, iI_add]
      rw [if_pos (show nI r < 2 from nI_lt (b := 2) q2 (by omega)), e1]
      exact t
    · have t := pl_tail (N := N) (o := o) (gd := gd) (b0 := b0) (lm := X - (sc * D : Nat) + 1) (br := sc * D) hN ha hR hB hy hwide hop hrow hnb (by omega) b8 (hi (sc * D) hbr b8 q2)
      have e1 : iI X - nI (sc * D) + 1 = iI (X - (sc * D : Nat) + 1) := by rw [nI_iI, iI_sub, iI_lit, iI_add]; rfl
      have e2 : iI (X - (sc * D : Nat) + 1) + nI (sc * D) = iI (X - (sc * D : Nat) + 1 + (sc * D : Nat)) := by rw [nI_iI, iI_add]
      rw [if_neg (show ¬ nI r < 2 from nI_nlt (b := 2) (by omega) (by omega)), e1, e2]
      exact t
/-- the dots of the first k marks -/
def pntD (g gd : Nat → Int32) (look : Nat → Int × Int × Nat × Nat × Nat × Nat × Nat × Nat × Nat × Bool × Bool × Bool) : Nat → Nat → Nat → Bool
  | 0, _, _ => false
  | k + 1, x, y => layM gd (look k).1 (look k).2.1 (look k).2.2.1 (look k).2.2.2.1 (look k).2.2.2.2.1 (look k).2.2.2.2.2.1 (look k).2.2.2.2.2.2.1 (look k).2.2.2.2.2.2.2.1 (look k).2.2.2.2.2.2.2.2.1 (look k).2.2.2.2.2.2.2.2.2.1 (look k).2.2.2.2.2.2.2.2.2.2.1 (look k).2.2.2.2.2.2.2.2.2.2.2 (pntD g gd look k x y) x y
theorem pb_lines {N a nb wide first lines bw t : Nat} {X Y : Int} {W D B r sc kd nu : Nat} {io so ab : Bool} {o : ob_Sheet} {op : ob_Page} {g gd : Nat → Int32} {b0 : Nat → Int64} (hN : 200 < N) (ha : a + 6 ≤ 24576) (hR : mkR g a X Y W D B r sc kd nu io so ab) (hB : mkB X Y W D B r sc kd nu ab) (hfl : first + lines < 2 ^ 20) (hwide : wide ≤ 10000) (hop : ex_Page_wide N op = some (nI wide)) (hbw : bw = (wide + 63) / 64) (hroom : lines * bw ≤ nb) (hnb : nb < 2 ^ 31) (ht : t ≤ first + lines)
    (f0 : Nat) (hf0 : first ≤ f0) (hdn : ∀ y, f0 ≤ y → y < t → 0 ≤ dwnM r Y y ∧ dwnM r Y y < (if r % 2 = 0 then sc * D else sc * W : Nat)) :
    ∀ (m fu y : Nat) (b : Nat → Int64), t - y = m → m < fu → f0 ≤ y → y < 2 ^ 21 → (∀ l x, l < lines → x < wide → wdots b (l * bw) x = if f0 ≤ first + l ∧ first + l < y ∧ first + l < t then layM gd X Y W D B r sc kd nu io so ab (wdots b0 (l * bw) x) x (first + l) else wdots b0 (l * bw) x) →
      ∃ b', lp_Sheet_paintBand_181l37 N o op g gd nb (nI first) (nI t) (nI bw) (nI a) fu (nI y) b = some b' ∧ (∀ l x, l < lines → x < wide → wdots b' (l * bw) x = if f0 ≤ first + l ∧ first + l < t then layM gd X Y W D B r sc kd nu io so ab (wdots b0 (l * bw) x) x (first + l) else wdots b0 (l * bw) x) := by
  intro m
  induction m with
  | zero =>
    intro fu y b hm hf hy hy21 hb
    obtain ⟨fu, rfl⟩ : ∃ z, fu = z + 1 := ⟨fu - 1, by omega⟩
    refine ⟨b, by rw [lp_Sheet_paintBand_181l37, if_pos (nI_le (by omega) (by omega))], fun l x hl hx => ?_⟩
    rw [hb l x hl hx]
    by_cases c : f0 ≤ first + l ∧ first + l < t
    · rw [if_pos c, if_pos (by omega)]
    · rw [if_neg c, if_neg (by omega)]
  | succ m ih =>
    intro fu y b hm hf hy hy21 hb
    obtain ⟨fu, rfl⟩ : ∃ z, fu = z + 1 := ⟨fu - 1, by omega⟩
    obtain ⟨l0, rfl⟩ : ∃ l0, y = first + l0 := ⟨y - first, by omega⟩
    have hl0 : l0 < lines := by omega
    have hrw : (nI (first + l0) - nI first) * nI bw = nI (l0 * bw) := by
      rw [nI_sub (by omega), nI_mul]; congr 2; omega
    have hlb : l0 * bw + bw ≤ nb := by
      have : (l0 + 1) * bw ≤ lines * bw := Nat.mul_le_mul_right bw (by omega)
      rw [Nat.succ_mul] at this; omega
    obtain ⟨b1, p1, p2, p3⟩ := pl_line (N := N) (y := first + l0) (row := l0 * bw) (o := fs_Sheet_bandWords o (nI bw)) (gd := gd) (b0 := b) hN ha hR hB (by omega) hwide hop (by omega) hnb (hdn _ hy (by omega))
    have hb1 : ∀ l x, l < lines → x < wide → wdots b1 (l * bw) x = if f0 ≤ first + l ∧ first + l < first + l0 + 1 ∧ first + l < t then layM gd X Y W D B r sc kd nu io so ab (wdots b0 (l * bw) x) x (first + l) else wdots b0 (l * bw) x := by
      intro l x hl hx
      by_cases q : l = l0
      · subst q
        have h1 := hb l x hl hx
        rw [if_neg (by omega)] at h1
        rw [p3 x hx, h1, if_pos (by omega)]
      · have hsame : wdots b1 (l * bw) x = wdots b (l * bw) x := by
          unfold wdots
          rw [p2]
          by_cases q2 : l < l0
          · left
            have : (l + 1) * bw ≤ l0 * bw := Nat.mul_le_mul_right bw q2
            rw [Nat.succ_mul] at this; omega
          · right
            have : (l0 + 1) * bw ≤ l * bw := Nat.mul_le_mul_right bw (by omega)
            rw [Nat.succ_mul] at this; omega
        rw [hsame, hb l x hl hx]
        by_cases c : f0 ≤ first + l ∧ first + l < first + l0 ∧ first + l < t
        · rw [if_pos c, if_pos (by omega)]
        · rw [if_neg c, if_neg (by omega)]
    obtain ⟨b', e1, e2⟩ := ih fu (first + l0 + 1) b1 (by omega) (by omega) (by omega) (by omega) hb1
    refine ⟨b', ?_, e2⟩
    rw [lp_Sheet_paintBand_181l37, if_neg (nI_ge (by omega) (by omega)), hrw, p1]
    simp only [Option.bind_some, nI_1]
    exact e1
theorem fill2 {N nb : Nat} (hN : nb < N) (hnb : nb < 2 ^ 31) (b : Nat → Int64) : ∃ b', ex_JArrays_fill2 N nb b 0 = some b' ∧ ∀ i, i < nb → b' i = 0 := by
  have key : ∀ (m fu w : Nat) (b : Nat → Int64), nb - w = m → m < fu → w ≤ nb → (∀ i, i < w → b i = 0) → ∃ b', lp_JArrays_fill2_6 nb 0 fu (nI w) b = some b' ∧ ∀ i, i < nb → b' i = 0 := by
    intro m
    induction m with
    | zero =>
      intro fu w b hm hf hw h
      obtain ⟨fu, rfl⟩ : ∃ z, fu = z + 1 := ⟨fu - 1, by omega⟩
      exact ⟨b, by rw [lp_JArrays_fill2_6, if_pos (nI_le (by omega) (by omega))], fun i hi => h i (by omega)⟩
    | succ m ih =>
      intro fu w b hm hf hw h
      obtain ⟨fu, rfl⟩ : ∃ z, fu = z + 1 := ⟨fu - 1, by omega⟩
      rw [lp_JArrays_fill2_6, if_neg (nI_ge (by omega) (by omega)), if_pos (dk_in_nI (by omega) hnb), nI_clamp (by omega), nI_1]
      refine ih fu (w + 1) _ (by omega) (by omega) (by omega) (fun i hi => ?_)
      by_cases q : i = w
      · subst q; rw [pk_uLs]
      · rw [pk_uLn q]; exact h i (by omega)
  obtain ⟨b', h1, h2⟩ := key nb N 0 b rfl hN (by omega) (fun i hi => absurd hi (by omega))
  refine ⟨b', ?_, h2⟩
  unfold ex_JArrays_fill2
  have h1' : lp_JArrays_fill2_6 nb 0 N 0 b = some b' := h1
  rw [h1']; rfl
/-- a band is as the dots say, or they are white and it isn't used -/
def bndR (D : Nat → Nat → Bool) (first lines wide bw : Nat) (tf : Bool) (b : Nat → Int64) : Prop := (tf = false → ∀ l x, l < lines → x < wide → D x (first + l) = false) ∧ (tf = true → ∀ l x, l < lines → x < wide → wdots b (l * bw) x = D x (first + l))
def pbT (N : Nat) (o : ob_Sheet) (op : ob_Page) (g gd : Nat → Int32) (nb : Nat) (v0 v1 u4 w4 ab e : Int32) (rec_ : Int32 → Int32 → (Nat → Int64) → Option (Int32 × (Nat → Int64))) (w3 : Int32) (b : Nat → Int64) : Option (Int32 × (Nat → Int64)) :=
  dk_let (if v0 < ab then ab else v0 : Int32) (fun y1 => dk_let (if e < (v0 + v1) then e else (v0 + v1) : Int32) (fun y2 => if y2 ≤ y1 then (jn_Sheet_paintBand_177k36 N o op g gd nb v0 y2 u4 w4 y1 rec_ w3 b) else (if w3 = (0 : Int32) then ((ex_JArrays_fill2 N nb b (0 : Int64)).bind (fun u => jn_Sheet_paintBand_177k36 N o op g gd nb v0 y2 u4 w4 y1 rec_ (1 : Int32) u)) else (jn_Sheet_paintBand_177k36 N o op g gd nb v0 y2 u4 w4 y1 rec_ w3 b))))
theorem pb_mark {N a nb wide first lines bw : Nat} {X Y : Int} {W D B r sc kd nu : Nat} {io so ab : Bool} {o : ob_Sheet} {op : ob_Page} {g gd : Nat → Int32} {b : Nat → Int64} {DD : Nat → Nat → Bool} {tf : Bool} {abv : Int} {tall : Nat} {rec_ : Int32 → Int32 → (Nat → Int64) → Option (Int32 × (Nat → Int64))} (hN : 200 < N) (hNb : nb < N) (hNl : first + lines < N) (ha : a + 6 ≤ 24576) (hR : mkR g a X Y W D B r sc kd nu io so ab) (hB : mkB X Y W D B r sc kd nu ab) (hfl : first + lines < 2 ^ 20) (hwide : wide ≤ 10000) (hop : ex_Page_wide N op = some (nI wide)) (hbw : bw = (wide + 63) / 64) (hroom : lines * bw ≤ nb) (hnb : nb < 2 ^ 31)
    (hab : -1200000000 ≤ abv ∧ abv ≤ 1200000000) (htl : tall = if r % 2 = 0 then sc * D else sc * W) (htl4 : tall ≤ 40000) (hdn : ∀ y : Nat, (0 ≤ dwnM r Y y ∧ dwnM r Y y < tall) ↔ (abv ≤ y ∧ (y : Int) < abv + tall)) (hb : bndR DD first lines wide bw tf b) :
    ∃ tf' b', pbT N o op g gd nb (nI first) (nI lines) (nI bw) (nI a) (iI abv) (iI (abv + tall)) rec_ (nI tf.toNat) b = rec_ (nI a + 6) (nI (Bool.toNat tf')) b' ∧ bndR (fun x y => layM gd X Y W D B r sc kd nu io so ab (DD x y) x y) first lines wide bw tf' b' := by
  have hc1 : nI first < iI abv ↔ (first : Int) < abv := by rw [nI_iI]; exact iI_lt (by omega) (by omega)
  have hc2 : iI (abv + tall) < nI (first + lines) ↔ abv + tall < ((first + lines : Nat) : Int) := by rw [nI_iI]; exact iI_lt (by omega) (by omega)
  obtain ⟨f0, hf0⟩ : ∃ f0 : Int, f0 = if (first : Int) < abv then abv else first := ⟨_, rfl⟩
  obtain ⟨t0, ht0⟩ : ∃ t0 : Int, t0 = if abv + tall < ((first + lines : Nat) : Int) then abv + tall else ((first + lines : Nat) : Int) := ⟨_, rfl⟩
  have hf1 : f0 = abv ∧ (first : Int) < abv ∨ f0 = first ∧ abv ≤ first := by rw [hf0]; split <;> omega
  have ht1 : t0 = abv + tall ∧ abv + tall < ((first + lines : Nat) : Int) ∨ t0 = ((first + lines : Nat) : Int) ∧ ((first + lines : Nat) : Int) ≤ abv + tall := by rw [ht0]; split <;> omega
  have e1 : (if nI first < iI abv then iI abv else nI first) = iI f0 := by
    by_cases q : (first : Int) < abv
    · rw [if_pos (hc1.mpr q), hf0, if_pos q]
    · rw [if_neg (mt hc1.mp q), hf0, if_neg q]; rfl
  have e2 : (if iI (abv + tall) < nI (first + lines) then iI (abv + tall) else nI (first + lines)) = iI t0 := by
    by_cases q : abv + tall < ((first + lines : Nat) : Int)
    · rw [if_pos (hc2.mpr q), ht0, if_pos q]
    · rw [if_neg (mt hc2.mp q), ht0, if_neg q]; rfl
  have hc3 : iI t0 ≤ iI f0 ↔ t0 ≤ f0 := iI_le (by omega) (by omega)
  unfold pbT
  simp only [dk_let, nI_add]
  rw [e1, e2]
  -- a line outside of the mark
  have out : ∀ l x, l < lines → ¬ (f0 ≤ ((first + l : Nat) : Int) ∧ ((first + l : Nat) : Int) < t0) → ∀ old, layM gd X Y W D B r sc kd nu io so ab old x (first + l) = old := by
    intro l x hl hq old
    unfold layM
    have hni : ¬ inM r X Y W D sc x (first + l) = true := by
      intro hi
      unfold inM pM qM at hi
      have hi := of_decide_eq_true hi
      have hd : 0 ≤ dwnM r Y (first + l) ∧ dwnM r Y (first + l) < tall := by
        rw [htl]
        by_cases q : r % 2 = 0
        · rw [if_pos q, if_pos q] at hi; rw [if_pos q]; exact ⟨hi.2.2.1, hi.2.2.2⟩
        · rw [if_neg q, if_neg q] at hi; rw [if_neg q]; exact ⟨hi.1, hi.2.1⟩
      have := (hdn (first + l)).mp hd
      omega
    rw [if_neg hni]
  unfold jn_Sheet_paintBand_177k36
  by_cases q : t0 ≤ f0
  · rw [if_pos (hc3.mpr q)]
    have hz : lp_Sheet_paintBand_181l37 N o op g gd nb (nI first) (iI t0) (nI bw) (nI a) N (iI f0) b = some b := by
      obtain ⟨M, rfl⟩ : ∃ M, N = M + 1 := ⟨N - 1, by omega⟩
      rw [lp_Sheet_paintBand_181l37, if_pos (hc3.mpr q)]
    rw [hz]
    refine ⟨tf, b, rfl, ⟨fun h l x hl hx => ?_, fun h l x hl hx => ?_⟩⟩
    · show layM gd X Y W D B r sc kd nu io so ab (DD x (first + l)) x (first + l) = false
      rw [out l x hl (by omega)]; exact hb.1 h l x hl hx
    · show wdots b (l * bw) x = layM gd X Y W D B r sc kd nu io so ab (DD x (first + l)) x (first + l)
      rw [out l x hl (by omega)]; exact hb.2 h l x hl hx
  · rw [if_neg (mt hc3.mp q)]
    obtain ⟨f1, rfl⟩ : ∃ f1 : Nat, f0 = f1 := ⟨f0.toNat, by omega⟩
    obtain ⟨t1, rfl⟩ : ∃ t1 : Nat, t0 = t1 := ⟨t0.toNat, by omega⟩
    have run : ∀ b1 : Nat → Int64, (∀ l x, l < lines → x < wide → wdots b1 (l * bw) x = DD x (first + l)) → ∃ b', lp_Sheet_paintBand_181l37 N o op g gd nb (nI first) (iI (t1 : Int)) (nI bw) (nI a) N (iI (f1 : Int)) b1 = some b' ∧ bndR (fun x y => layM gd X Y W D B r sc kd nu io so ab (DD x y) x y) first lines wide bw true b' := by
      intro b1 hb1
      obtain ⟨b', p1, p2⟩ := pb_lines (N := N) (o := o) (gd := gd) (b0 := b1) (t := t1) hN ha hR hB hfl hwide hop hbw hroom hnb (by omega) f1 (by omega) (fun y h1 h2 => by
        rw [← htl]; exact (hdn y).mpr (by omega)) (t1 - f1) N f1 b1 rfl (by omega) (Nat.le_refl _) (by omega) (fun l x hl hx => by rw [if_neg (by omega)])
      refine ⟨b', p1, fun h => absurd h (by decide), fun _ l x hl hx => ?_⟩
      show wdots b' (l * bw) x = layM gd X Y W D B r sc kd nu io so ab (DD x (first + l)) x (first + l)
      rw [p2 l x hl hx, hb1 l x hl hx]
      by_cases c : f1 ≤ first + l ∧ first + l < t1
      · rw [if_pos c]
      · rw [if_neg c, out l x hl (by omega)]
    cases tf with
    | false =>
      obtain ⟨bz, z1, z2⟩ := fill2 (N := N) hNb hnb b
      rw [if_pos (show nI (false).toNat = 0 from rfl), z1]
      simp only [Option.bind_some]
      obtain ⟨b', p1, p2⟩ := run bz (fun l x hl hx => by
        rw [hb.1 rfl l x hl hx]
        unfold wdots
        have hlb : l * bw + bw ≤ nb := by
          have : (l + 1) * bw ≤ lines * bw := Nat.mul_le_mul_right bw (by omega)
          rw [Nat.succ_mul] at this; omega
        rw [z2 _ (by omega), lb_0])
      rw [p1]
      exact ⟨true, b', rfl, p2⟩
    | true =>
      rw [if_neg (show ¬ nI (true).toNat = 0 by decide)]
      obtain ⟨b', p1, p2⟩ := run b (hb.2 rfl)
      rw [p1]
      exact ⟨true, b', rfl, p2⟩
/-- marks in a row -/
abbrev mkT : Type := Int × Int × Nat × Nat × Nat × Nat × Nat × Nat × Nat × Bool × Bool × Bool
def mksR (g : Nat → Int32) (n : Nat) (mk : Nat → mkT) : Prop := ∀ k, k < n → mkR g (6 * k) (mk k).1 (mk k).2.1 (mk k).2.2.1 (mk k).2.2.2.1 (mk k).2.2.2.2.1 (mk k).2.2.2.2.2.1 (mk k).2.2.2.2.2.2.1 (mk k).2.2.2.2.2.2.2.1 (mk k).2.2.2.2.2.2.2.2.1 (mk k).2.2.2.2.2.2.2.2.2.1 (mk k).2.2.2.2.2.2.2.2.2.2.1 (mk k).2.2.2.2.2.2.2.2.2.2.2 ∧ mkB (mk k).1 (mk k).2.1 (mk k).2.2.1 (mk k).2.2.2.1 (mk k).2.2.2.2.1 (mk k).2.2.2.2.2.1 (mk k).2.2.2.2.2.2.1 (mk k).2.2.2.2.2.2.2.1 (mk k).2.2.2.2.2.2.2.2.1 (mk k).2.2.2.2.2.2.2.2.2.2.2
theorem pb_loop {N n nb wide first lines bw : Nat} {o : ob_Sheet} {op : ob_Page} {g gd : Nat → Int32} {mk : Nat → mkT} (hN : 200 < N) (hNb : nb < N) (hNl : first + lines < N) (hn : n ≤ 4096) (ho : fd_Sheet_count o = nI n) (hM : mksR g n mk) (hfl : first + lines < 2 ^ 20) (hwide : wide ≤ 10000) (hop : ex_Page_wide N op = some (nI wide)) (hbw : bw = (wide + 63) / 64) (hroom : lines * bw ≤ nb) (hnb : nb < 2 ^ 31) :
    ∀ (m fu k : Nat) (tf : Bool) (b : Nat → Int64), n - k = m → m < fu → k ≤ n → bndR (pntD g gd mk k) first lines wide bw tf b →
      ∃ tf' b', lp_Sheet_paintBand_19f31 N o op g gd nb (nI first) (nI lines) (nI bw) fu (nI (6 * k)) (nI tf.toNat) b = some (nI (Bool.toNat tf'), b') ∧ bndR (pntD g gd mk n) first lines wide bw tf' b' := by
  have e6 : fd_Sheet_count o * 6 = nI (6 * n) := by rw [ho]; have h := nI_mul n 6; rw [Nat.mul_comm] at h; exact h
  intro m
  induction m with
  | zero =>
    intro fu k tf b hm hf hk hb
    obtain ⟨fu, rfl⟩ : ∃ z, fu = z + 1 := ⟨fu - 1, by omega⟩
    have : k = n := by omega
    subst this
    exact ⟨tf, b, by rw [lp_Sheet_paintBand_19f31, e6, if_pos (nI_le (by omega) (by omega))], hb⟩
  | succ m ih =>
    intro fu k tf b hm hf hk hb
    obtain ⟨fu, rfl⟩ : ∃ z, fu = z + 1 := ⟨fu - 1, by omega⟩
    obtain ⟨hR, hB⟩ := hM k (by omega)
    obtain ⟨r0, r1, r2, r3, r4, r5⟩ := hR
    have hR : mkR g (6 * k) (mk k).1 (mk k).2.1 (mk k).2.2.1 (mk k).2.2.2.1 (mk k).2.2.2.2.1 (mk k).2.2.2.2.2.1 (mk k).2.2.2.2.2.2.1 (mk k).2.2.2.2.2.2.2.1 (mk k).2.2.2.2.2.2.2.2.1 (mk k).2.2.2.2.2.2.2.2.2.1 (mk k).2.2.2.2.2.2.2.2.2.2.1 (mk k).2.2.2.2.2.2.2.2.2.2.2 := ⟨r0, r1, r2, r3, r4, r5⟩
    have hpk : ∀ x y, pntD g gd mk (k + 1) x y = layM gd (mk k).1 (mk k).2.1 (mk k).2.2.1 (mk k).2.2.2.1 (mk k).2.2.2.2.1 (mk k).2.2.2.2.2.1 (mk k).2.2.2.2.2.2.1 (mk k).2.2.2.2.2.2.2.1 (mk k).2.2.2.2.2.2.2.2.1 (mk k).2.2.2.2.2.2.2.2.2.1 (mk k).2.2.2.2.2.2.2.2.2.2.1 (mk k).2.2.2.2.2.2.2.2.2.2.2 (pntD g gd mk k x y) x y := fun x y => rfl
    generalize mk k = z at r0 r1 r2 r3 r4 r5 hR hB hpk
    obtain ⟨X, Y, W, D, B, r, sc, kd, nu, io, so, ab⟩ := z
    simp only at r0 r1 r2 r3 r4 r5 hR hB hpk
    have hB' := hB
    obtain ⟨b1, b2, b3, b4, b5, b6, b7, b8, b9, b10⟩ := hB'
    have er := look_r (io := io) (so := so) (ab := ab) b5
    have esc := look_sc (io := io) (so := so) (ab := ab) b5
    obtain ⟨k1, k2, k3, k4, k5⟩ := b5
    have c5 : (nI (6 * k + 5)).toNatClampNeg = 6 * k + 5 := nI_clamp (by omega)
    have c2 : (nI (6 * k + 2)).toNatClampNeg = 6 * k + 2 := nI_clamp (by omega)
    have c3 : (nI (6 * k + 3)).toNatClampNeg = 6 * k + 3 := nI_clamp (by omega)
    have c1 : (nI (6 * k + 1)).toNatClampNeg = 6 * k + 1 := nI_clamp (by omega)
    have i5 : dk_in (nI (6 * k + 5)) 24576 := dk_in_nI (by omega) (by omega)
    have i2 : dk_in (nI (6 * k + 2)) 24576 := dk_in_nI (by omega) (by omega)
    have i3 : dk_in (nI (6 * k + 3)) 24576 := dk_in_nI (by omega) (by omega)
    have i1 : dk_in (nI (6 * k + 1)) 24576 := dk_in_nI (by omega) (by omega)
    have n6 : ¬ (24576 : Int32) < nI (6 * k + 6) := nI_nlt (a := 24576) (by omega) (by omega)
    have nlt : ¬ nI (6 * n) ≤ nI (6 * k) := nI_ge (by omega) (by omega)
    have erm : (nI r &&& 1 = 0) ↔ r % 2 = 0 := by rw [nI_and1 (by omega)]; exact nI_eq0 (by omega)
    have eT : ∀ tall : Nat, tall = (if r % 2 = 0 then sc * D else sc * W) → tall ≤ 40000 → ∃ tf' b', (if nI r = 1 then pbT N o op g gd nb (nI first) (nI lines) (nI bw) (nI (6 * k)) (iI Y - nI tall + 1) (iI Y - nI tall + 1 + nI tall) (lp_Sheet_paintBand_19f31 N o op g gd nb (nI first) (nI lines) (nI bw) fu) (nI tf.toNat) b else if nI r = 2 then pbT N o op g gd nb (nI first) (nI lines) (nI bw) (nI (6 * k)) (iI Y - nI tall + 1) (iI Y - nI tall + 1 + nI tall) (lp_Sheet_paintBand_19f31 N o op g gd nb (nI first) (nI lines) (nI bw) fu) (nI tf.toNat) b else pbT N o op g gd nb (nI first) (nI lines) (nI bw) (nI (6 * k)) (iI Y) (iI Y + nI tall) (lp_Sheet_paintBand_19f31 N o op g gd nb (nI first) (nI lines) (nI bw) fu) (nI tf.toNat) b) = some (nI (Bool.toNat tf'), b') ∧ bndR (pntD g gd mk n) first lines wide bw tf' b' := by
      intro tall htl htl4
      have step : ∀ abv : Int, -1200000000 ≤ abv ∧ abv ≤ 1200000000 → (∀ y : Nat, (0 ≤ dwnM r Y y ∧ dwnM r Y y < tall) ↔ (abv ≤ y ∧ (y : Int) < abv + tall)) → ∃ tf' b', pbT N o op g gd nb (nI first) (nI lines) (nI bw) (nI (6 * k)) (iI abv) (iI (abv + tall)) (lp_Sheet_paintBand_19f31 N o op g gd nb (nI first) (nI lines) (nI bw) fu) (nI tf.toNat) b = some (nI (Bool.toNat tf'), b') ∧ bndR (pntD g gd mk n) first lines wide bw tf' b' := by
        intro abv hab hdn
        obtain ⟨tf1, b1', p1, p2⟩ := pb_mark (N := N) (o := o) (gd := gd) (rec_ := lp_Sheet_paintBand_19f31 N o op g gd nb (nI first) (nI lines) (nI bw) fu) hN hNb hNl (show 6 * k + 6 ≤ 24576 by omega) hR hB hfl hwide hop hbw hroom hnb hab htl htl4 hdn hb
        have hb1 : bndR (pntD g gd mk (k + 1)) first lines wide bw tf1 b1' := ⟨fun h l x hl hx => by rw [hpk]; exact p2.1 h l x hl hx, fun h l x hl hx => by rw [hpk]; exact p2.2 h l x hl hx⟩
        obtain ⟨tf', b', q1, q2⟩ := ih fu (k + 1) tf1 b1' (by omega) (by omega) (by omega) hb1
        refine ⟨tf', b', ?_, q2⟩
        rw [p1, nI_addL]
        have : nI (6 * k + OfNat.ofNat 6) = nI (6 * (k + 1)) := by congr 1
        rw [this]; exact q1
      by_cases q1 : r = 1
      · have h := step (Y - tall + 1) (by omega) (fun y => by unfold dwnM; rw [if_pos (Or.inl q1)]; omega)
        have e1 : iI Y - nI tall + 1 = iI (Y - tall + 1) := by rw [nI_iI, iI_sub, iI_lit, iI_add]; rfl
        have e2 : iI (Y - tall + 1) + nI tall = iI (Y - tall + 1 + tall) := by rw [nI_iI, iI_add]
        rw [if_pos (show nI r = 1 by rw [q1]; rfl), e1, e2]; exact h
      · rw [if_neg (show ¬ nI r = 1 from mt (nI_eq (b := 1) (by omega) (by omega)).mp q1)]
        by_cases q2 : r = 2
        · have h := step (Y - tall + 1) (by omega) (fun y => by unfold dwnM; rw [if_pos (Or.inr q2)]; omega)
          have e1 : iI Y - nI tall + 1 = iI (Y - tall + 1) := by rw [nI_iI, iI_sub, iI_lit, iI_add]; rfl
          have e2 : iI (Y - tall + 1) + nI tall = iI (Y - tall + 1 + tall) := by rw [nI_iI, iI_add]
          rw [if_pos (show nI r = 2 by rw [q2]; rfl), e1, e2]; exact h
        · have h := step Y (by omega) (fun y => by unfold dwnM; rw [if_neg (by omega)]; omega)
          have e2 : iI Y + nI tall = iI (Y + tall) := by rw [nI_iI, iI_add]
          rw [if_neg (show ¬ nI r = 2 from mt (nI_eq (b := 2) (by omega) (by omega)).mp q2), e2]; exact h
    rw [lp_Sheet_paintBand_19f31, e6]
    simp only [nI_addL, if_neg nlt, if_neg n6, if_pos i5, if_pos i2, if_pos i3, if_pos i1, c5, c2, c3, c1, r5, r2, r3, r1, er, esc, nI_mul]
    by_cases q : r % 2 = 0
    · rw [if_pos (erm.mpr q)]
      have h := eT (sc * D) (by rw [if_pos q]) b8
      unfold pbT at h
      unfold jn_Sheet_paintBand_121j35
      simp only [c1, r1, nI_addL, dk_let] at h ⊢
      exact h
    · rw [if_neg (mt erm.mp q)]
      have h := eT (sc * W) (by rw [if_neg q]) b7
      unfold pbT at h
      unfold jn_Sheet_paintBand_121j35
      simp only [c1, r1, nI_addL, dk_let] at h ⊢
      exact h
theorem pb_band {N n nb wide first lines : Nat} {o : ob_Sheet} {op : ob_Page} {g gd : Nat → Int32} {mk : Nat → mkT} {b : Nat → Int64} (hN : 5000 < N) (hNb : nb < N) (hNl : first + lines < N) (hn : n ≤ 4096) (ho : fd_Sheet_count o = nI n) (hM : mksR g n mk) (hfl : first + lines < 2 ^ 20) (hwide : wide ≤ 10000) (hop : ex_Page_wide N op = some (nI wide)) (hroom : lines * ((wide + 63) / 64) ≤ nb) (hnb : nb < 2 ^ 31) :
      ∃ tf' b', ex_Sheet_paintBand N o op g gd nb b (nI first) (nI lines) = some (fs_Sheet_bandWords o (nI ((wide + 63) / 64)), b', nI (Bool.toNat tf')) ∧ bndR (pntD g gd mk n) first lines wide ((wide + 63) / 64) tf' b' := by
  obtain ⟨tf', b', p1, p2⟩ := pb_loop (N := N) (o := o) (gd := gd) (mk := mk) (by omega) hNb hNl hn ho hM hfl hwide hop rfl hroom hnb n N 0 false b rfl (by omega) (by omega) ⟨fun _ l x _ _ => rfl, fun h => absurd h (by decide)⟩
  refine ⟨tf', b', ?_, p2⟩
  unfold ex_Sheet_paintBand ex_Sheet_wordsOf
  have ew : (nI wide + 63) / 64 = nI ((wide + 63) / 64) := by rw [nI_addL]; exact nI_div (b := 64) (by omega) (by omega)
  have kb : dk_bool (nI (Bool.toNat tf')) := by cases tf'; exact Or.inl rfl; exact Or.inr rfl
  have p1' : lp_Sheet_paintBand_19f31 N o op g gd nb (nI first) (nI lines) (nI ((wide + 63) / 64)) N 0 0 b = some (nI (Bool.toNat tf'), b') := p1
  rw [hop]
  simp only [Option.bind_some]
  rw [ew, p1']
  simp only [Option.bind_some]
  rw [if_pos kb]
theorem ml_thr0 (n : Nat) : ∀ i, i < 8 → ∀ j, j < 8 → lp_mSheet_threshold_4 (nI i) (nI j) (n + 4) 0 0 = some (nI (ordN i j)) := by
  have key : ∀ i, i < 8 → ∀ j, j < 8 → lp_mSheet_threshold_4 (nI i) (nI j) 4 0 0 = some (nI (ordN i j)) := by decide +kernel
  have mono : ∀ (f : Nat) (a b w z r : Int32), lp_mSheet_threshold_4 a b f w z = some r → lp_mSheet_threshold_4 a b (n + f) w z = some r := by
    intro f
    induction f with
    | zero => intro a b w z r h; exact absurd h (by rw [lp_mSheet_threshold_4]; intro q; cases q)
    | succ f ih =>
      intro a b w z r h
      rw [show n + (f + 1) = (n + f) + 1 by omega]
      rw [lp_mSheet_threshold_4] at h ⊢
      by_cases c : (3 : Int32) ≤ w
      · rw [if_pos c] at h ⊢; exact h
      · rw [if_neg c] at h ⊢
        by_cases c2 : (a >>> (w &&& 31)) &&& 1 = (b >>> (w &&& 31)) &&& 1
        · rw [if_pos c2] at h ⊢; exact ih _ _ _ _ _ h
        · rw [if_neg c2] at h ⊢; exact ih _ _ _ _ _ h
  intro i hi j hj
  exact mono 4 _ _ _ _ _ (key i hi j hj)
theorem ml_isInk {N kd nu x y : Nat} (hN : 10 < N) (hk : kd < 4) (hnu : nu < 128) (h3 : kd = 3 → 0 < nu ∧ nu < 7) (hx : x < 2 ^ 20) (hy : y < 2 ^ 20) : ex_mSheet_isInk N (nI kd) (nI nu) (nI x) (nI y) = some (nI (inkB kd nu x y).toNat) := by
  unfold ex_mSheet_isInk
  by_cases c2 : kd < 2
  · rw [if_neg (show ¬ (2 : Int32) ≤ nI kd from nI_ge (b := 2) c2 (by omega))]
    have : kd = 0 ∨ kd = 1 := by omega
    rcases this with rfl | rfl <;> rfl
  · rw [if_pos (show (2 : Int32) ≤ nI kd from nI_le (a := 2) (by omega) (by omega))]
    by_cases q : kd = 2
    · subst q
      have e1 : nI x - nI x / 8 * 8 = nI (x % 8) := nI_mod (b := 8) (by omega) (by omega)
      have e2 : nI y - nI y / 8 * 8 = nI (y % 8) := nI_mod (b := 8) (by omega) (by omega)
      obtain ⟨M, rfl⟩ : ∃ M, N = M + 4 := ⟨N - 4, by omega⟩
      have ho := ordN_lt (x % 8) (by omega) (y % 8) (by omega)
      rw [if_pos (show nI 2 = 2 from rfl), e1, e2]
      unfold ex_mSheet_threshold
      rw [ml_thr0 M (x % 8) (by omega) (y % 8) (by omega)]
      simp only [Option.bind_some]
      have e3 : (64 * nI nu + 99) / 100 = nI ((64 * nu + 99) / 100) := by
        have e1 : 64 * nI nu + 99 = nI (64 * nu + 99) := by rw [nI_Lmul, nI_addL]
        rw [e1]; exact nI_div (b := 100) (by omega) (by omega)
      rw [e3]
      have hB : inkB 2 nu x y = decide (ordN (x % 8) (y % 8) < (64 * nu + 99) / 100) := rfl
      rw [hB]
      by_cases h : ordN (x % 8) (y % 8) < (64 * nu + 99) / 100
      · rw [if_neg (nI_ge h (by omega)), decide_eq_true h]; rfl
      · rw [if_pos (nI_le (by omega) (by omega)), decide_eq_false h]; rfl
    · have q3 : kd = 3 := by omega
      subst q3
      have e1 : nI x - nI x / 16 * 16 = nI (x % 16) := nI_mod (b := 16) (by omega) (by omega)
      have e2 : nI y - nI y / 16 * 16 = nI (y % 16) := nI_mod (b := 16) (by omega) (by omega)
      have h4 := h3 rfl
      rw [if_neg (show ¬ nI 3 = 2 by decide)]
      have ht := hatchM_tab nu h4.2 h4.1 (x % 16) (by omega) (y % 16) (by omega)
      have eh : ex_mSheet_hatch N (nI nu) (nI x) (nI y) = some (nI (hatchB nu (x % 16) (y % 16)).toNat) := by
        rw [← ht]
        have m1 : nI (x % 16) - nI (x % 16) / 16 * 16 = nI (x % 16) := (nI_mod (b := 16) (by omega) (by omega)).trans (by rw [Nat.mod_mod])
        have m2 : nI (y % 16) - nI (y % 16) / 16 * 16 = nI (y % 16) := (nI_mod (b := 16) (by omega) (by omega)).trans (by rw [Nat.mod_mod])
        unfold ex_mSheet_hatch jn_mSheet_hatch_25j9 jn_mSheet_hatch_30 jn_mSheet_hatch_44i8 jn_mSheet_hatch_49c2 jn_mSheet_hatch_67d3
        simp only [e1, e2, m1, m2]
      rw [eh]
      simp only [Option.bind_some]
      rw [if_pos (by cases hatchB nu (x % 16) (y % 16); exact Or.inl rfl; exact Or.inr rfl)]
      rfl
theorem ml_bit {j i : Nat} (hj : j < 64) (hi : i < 64) : lb ((1 : Int64) <<< (((63 : Int32) - nI j).toInt64 &&& 63)) i = decide (i = 63 - j) := by
  have e : (63 : Int32) - nI j = nI (63 - j) := nI_sub (a := 63) (by omega)
  rw [e, lb_shlc _ _ (by omega) hi, lb_1]
  by_cases q : i = 63 - j
  · rw [decide_eq_true (show 63 - j ≤ i by omega), decide_eq_true (show i - (63 - j) = 0 by omega), decide_eq_true q]; rfl
  · rw [decide_eq_false q]
    by_cases q2 : 63 - j ≤ i
    · rw [decide_eq_false (show ¬ i - (63 - j) = 0 by omega), Bool.and_false]
    · rw [decide_eq_false q2, Bool.false_and]
/-- the reference's sheet -/
def shM (os : ob_mSheet) (sd w h r nd : Nat) : Prop := fd_mSheet_stride os = nI sd ∧ fd_mSheet_wide os = nI w ∧ fd_mSheet_high os = nI h ∧ fd_mSheet_orientation os = nI r ∧ r < 4 ∧ w ≤ 64 * sd ∧ sd * h ≤ nd ∧ nd < 2 ^ 30 ∧ w < 2 ^ 20 ∧ h < 2 ^ 20
theorem sd_lt {sd y h nd : Nat} (hy : y < h) (hn : sd * h ≤ nd) : sd * y + sd ≤ nd := by
  have : sd * (y + 1) ≤ sd * h := Nat.mul_le_mul_left sd hy
  rw [Nat.mul_succ] at this; omega
theorem ml_set {N sd w h r nd x y : Nat} {os : ob_mSheet} {b : Nat → Int64} (bl : Bool) (hs : shM os sd w h r nd) (hx : x < w) (hy : y < h) :
    ∃ b', ex_mSheet_set N os nd b (nI x) (nI y) (nI bl.toNat) = some b' ∧ ∀ x' y', x' < 64 * sd → wdots b' (sd * y') x' = if x' = x ∧ y' = y then bl else wdots b (sd * y') x' := by
  obtain ⟨s1, s2, s3, s4, s5, s6, s7, s8, s9, s10⟩ := hs
  have hsl := sd_lt hy s7
  have e1 : fd_mSheet_stride os * nI y + nI x / 64 = nI (sd * y + x / 64) := by
    have : nI x / 64 = nI (x / 64) := nI_div (b := 64) (by omega) (by omega)
    rw [s1, nI_mul, this, nI_add]
  have e2 : nI x - nI x / 64 * 64 = nI (x % 64) := nI_mod (b := 64) (by omega) (by omega)
  have hin : sd * y + x / 64 < nd := by omega
  have i1 : dk_in (nI (sd * y + x / 64)) nd := dk_in_nI hin (by omega)
  have c1 : (nI (sd * y + x / 64)).toNatClampNeg = sd * y + x / 64 := nI_clamp (by omega)
  -- the word of another dot
  have other : ∀ (v : Int64) x' y', x' < 64 * sd → (∀ i, i < 64 → i ≠ 63 - x % 64 → lb v i = lb (b (sd * y + x / 64)) i) → ¬ (x' = x ∧ y' = y) → wdots (vp_updL b (sd * y + x / 64) v) (sd * y') x' = wdots b (sd * y') x' := by
    intro v x' y' hx' hv hne
    unfold wdots
    by_cases q : sd * y' + x' / 64 = sd * y + x / 64
    · have hyy : y' = y := by
        have a1 : x' / 64 < sd := by omega
        have a2 : x / 64 < sd := by omega
        rcases Nat.lt_trichotomy y' y with h1 | h1 | h1
        · have : sd * (y' + 1) ≤ sd * y := Nat.mul_le_mul_left sd h1
          rw [Nat.mul_succ] at this; omega
        · exact h1
        · have : sd * (y + 1) ≤ sd * y' := Nat.mul_le_mul_left sd h1
          rw [Nat.mul_succ] at this; omega
      subst hyy
      rw [q, pk_uLs]
      exact hv _ (by omega) (by omega)
    · rw [pk_uLn q]
  unfold ex_mSheet_set
  simp only [e1, e2, if_pos i1, c1, dk_let]
  cases bl with
  | false =>
    rw [if_pos (show nI (false).toNat = 0 from rfl)]
    refine ⟨_, rfl, fun x' y' hx' => ?_⟩
    have hv : ∀ i, i < 64 → lb (b (sd * y + x / 64) &&& (((1 : Int64) <<< (((63 : Int32) - nI (x % 64)).toInt64 &&& 63)) ^^^ (-1))) i = (lb (b (sd * y + x / 64)) i && !decide (i = 63 - x % 64)) := fun i hi => by rw [lb_and, lb_not _ hi, ml_bit (by omega) hi]
    by_cases q : x' = x ∧ y' = y
    · obtain ⟨rfl, rfl⟩ := q
      rw [if_pos ⟨rfl, rfl⟩]
      unfold wdots
      rw [pk_uLs, hv _ (by omega), decide_eq_true rfl]; simp
    · rw [if_neg q]
      exact other _ x' y' hx' (fun i hi hne => by rw [hv i hi, decide_eq_false hne]; simp) q
  | true =>
    rw [if_neg (show ¬ nI (true).toNat = 0 by decide)]
    refine ⟨_, rfl, fun x' y' hx' => ?_⟩
    have hv : ∀ i, i < 64 → lb (b (sd * y + x / 64) ||| ((1 : Int64) <<< (((63 : Int32) - nI (x % 64)).toInt64 &&& 63))) i = (lb (b (sd * y + x / 64)) i || decide (i = 63 - x % 64)) := fun i hi => by rw [lb_or, ml_bit (by omega) hi]
    by_cases q : x' = x ∧ y' = y
    · obtain ⟨rfl, rfl⟩ := q
      rw [if_pos ⟨rfl, rfl⟩]
      unfold wdots
      rw [pk_uLs, hv _ (by omega), decide_eq_true rfl]; simp
    · rw [if_neg q]
      exact other _ x' y' hx' (fun i hi hne => by rw [hv i hi, decide_eq_false hne]; simp) q
/-- a sheet's dot as a dot of the page -/
def iOf (r w h x y : Nat) : Int := if r = 0 then x else if r = 1 then (h : Int) - 1 - y else if r = 2 then (w : Int) - 1 - x else y
def jOf (r w h x y : Nat) : Int := if r = 0 then y else if r = 1 then x else if r = 2 then (h : Int) - 1 - y else (w : Int) - 1 - x
theorem ml_lay {N sd w h r nd kd nu : Nat} {os : ob_mSheet} {b : Nat → Int64} {i j : Int} (src io so : Bool) (hN : 10 < N) (hs : shM os sd w h r nd) (hso : fd_mSheet_sourceOpaque os = nI so.toNat) (hk : kd < 4) (hnu : nu < 128) (h3 : kd = 3 → 0 < nu ∧ nu < 7) (hi : -1000000000 ≤ i ∧ i ≤ 1000000000) (hj : -1000000000 ≤ j ∧ j ≤ 1000000000) :
    ∃ b', ex_mSheet_lay N os nd b (iI i) (iI j) (nI src.toNat) (nI kd) (nI nu) (nI io.toNat) = some b' ∧ ∀ x y, x < 64 * sd → wdots b' (sd * y) x = if (x < w ∧ y < h) ∧ iOf r w h x y = i ∧ jOf r w h x y = j then layB (wdots b (sd * y) x) src (inkB kd nu x y) so io else wdots b (sd * y) x := by
  have hs' := hs
  obtain ⟨s1, s2, s3, s4, s5, s6, s7, s8, s9, s10⟩ := hs'
  have core : ∀ xz yz : Int, -1100000000 ≤ xz ∧ xz ≤ 1100000000 → -1100000000 ≤ yz ∧ yz ≤ 1100000000 → (∀ x y : Nat, x < w → y < h → ((iOf r w h x y = i ∧ jOf r w h x y = j) ↔ ((x : Int) = xz ∧ (y : Int) = yz))) → ∃ b', jn_mSheet_lay_102c2 N os nd b (nI src.toNat) (nI kd) (nI nu) (nI io.toNat) (iI xz) (iI yz) = some b' ∧ ∀ x y, x < 64 * sd → wdots b' (sd * y) x = if (x < w ∧ y < h) ∧ iOf r w h x y = i ∧ jOf r w h x y = j then layB (wdots b (sd * y) x) src (inkB kd nu x y) so io else wdots b (sd * y) x := by
    intro xz yz hxz hyz hiff
    have off : ¬ (0 ≤ xz ∧ xz < w ∧ 0 ≤ yz ∧ yz < h) → ∃ b', some b = some b' ∧ ∀ x y, x < 64 * sd → wdots b' (sd * y) x = if (x < w ∧ y < h) ∧ iOf r w h x y = i ∧ jOf r w h x y = j then layB (wdots b (sd * y) x) src (inkB kd nu x y) so io else wdots b (sd * y) x := by
      intro hq
      refine ⟨b, rfl, fun x y hx => ?_⟩
      rw [if_neg (fun q => by have := (hiff x y q.1.1 q.1.2).mp q.2; omega)]
    unfold jn_mSheet_lay_102c2 jn_mSheet_lay_132d3 jn_mSheet_lay_196e4
    have c1 : iI xz < 0 ↔ xz < 0 := iI_lt (b := 0) (by omega) (by omega)
    have c2 : fd_mSheet_wide os ≤ iI xz ↔ (w : Int) ≤ xz := by rw [s2, nI_iI]; exact iI_le (by omega) (by omega)
    have c3 : iI yz < 0 ↔ yz < 0 := iI_lt (b := 0) (by omega) (by omega)
    have c4 : iI yz < fd_mSheet_high os ↔ yz < (h : Int) := by rw [s3, nI_iI]; exact iI_lt (by omega) (by omega)
    by_cases q1 : xz < 0
    · rw [if_pos (c1.mpr q1)]; exact off (by omega)
    rw [if_neg (mt c1.mp q1)]
    by_cases q2 : (w : Int) ≤ xz
    · rw [if_pos (c2.mpr q2)]; exact off (by omega)
    rw [if_neg (mt c2.mp q2)]
    by_cases q3 : yz < 0
    · rw [if_pos (c3.mpr q3)]; exact off (by omega)
    rw [if_neg (mt c3.mp q3)]
    by_cases q4 : yz < (h : Int)
    · rw [if_pos (c4.mpr q4), hso]
      obtain ⟨xn, rfl⟩ : ∃ xn : Nat, xz = xn := ⟨xz.toNat, by omega⟩
      obtain ⟨yn, rfl⟩ : ∃ yn : Nat, yz = yn := ⟨yz.toNat, by omega⟩
      have hxn : xn < w := by omega
      have hyn : yn < h := by omega
      have eI : ex_mSheet_isInk N (nI kd) (nI nu) (iI (xn : Int)) (iI (yn : Int)) = some (nI (inkB kd nu xn yn).toNat) := ml_isInk hN hk hnu h3 (by omega) (by omega)
      obtain ⟨bf, f1, f2⟩ := ml_set (N := N) (b := b) false hs hxn hyn
      obtain ⟨bt, t1, t2⟩ := ml_set (N := N) (b := b) true hs hxn hyn
      have f1' : ex_mSheet_set N os nd b (iI (xn : Int)) (iI (yn : Int)) 0 = some bf := f1
      have t1' : ex_mSheet_set N os nd b (iI (xn : Int)) (iI (yn : Int)) 1 = some bt := t1
      rw [eI, f1', t1']
      simp only [Option.bind_some]
      have stay : (∀ old, layB old src (inkB kd nu xn yn) so io = old) → ∃ b', some b = some b' ∧ ∀ x y, x < 64 * sd → wdots b' (sd * y) x = if (x < w ∧ y < h) ∧ iOf r w h x y = i ∧ jOf r w h x y = j then layB (wdots b (sd * y) x) src (inkB kd nu x y) so io else wdots b (sd * y) x := by
        intro hq
        refine ⟨b, rfl, fun x y hx => ?_⟩
        by_cases q : (x < w ∧ y < h) ∧ iOf r w h x y = i ∧ jOf r w h x y = j
        · have := (hiff x y q.1.1 q.1.2).mp q.2
          have ex : x = xn := by omega
          have ey : y = yn := by omega
          subst ex ey
          rw [if_pos q, hq]
        · rw [if_neg q]
      have put : ∀ (bl : Bool) (b' : Nat → Int64), (∀ x' y', x' < 64 * sd → wdots b' (sd * y') x' = if x' = xn ∧ y' = yn then bl else wdots b (sd * y') x') → (∀ old, layB old src (inkB kd nu xn yn) so io = bl) → ∃ b'', some b' = some b'' ∧ ∀ x y, x < 64 * sd → wdots b'' (sd * y) x = if (x < w ∧ y < h) ∧ iOf r w h x y = i ∧ jOf r w h x y = j then layB (wdots b (sd * y) x) src (inkB kd nu x y) so io else wdots b (sd * y) x := by
        intro bl b' hb' hq
        refine ⟨b', rfl, fun x y hx => ?_⟩
        rw [hb' x y hx]
        by_cases q : (x < w ∧ y < h) ∧ iOf r w h x y = i ∧ jOf r w h x y = j
        · have := (hiff x y q.1.1 q.1.2).mp q.2
          have ex : x = xn := by omega
          have ey : y = yn := by omega
          subst ex ey
          rw [if_pos q, if_pos ⟨rfl, rfl⟩, hq]
        · rw [if_neg q, if_neg (fun hh => q ⟨⟨by omega, by omega⟩, (hiff x y (by omega) (by omega)).mpr (by omega)⟩)]
      cases src with
      | false =>
        rw [if_pos (show nI (false).toNat = 0 from rfl)]
        cases so with
        | false => rw [if_pos (show nI (false).toNat = 0 from rfl)]; exact stay (fun old => rfl)
        | true => rw [if_neg (show ¬ nI (true).toNat = 0 by decide)]; exact put false bf f2 (fun old => rfl)
      | true =>
        rw [if_neg (show ¬ nI (true).toNat = 0 by decide)]
        cases hb : inkB kd nu xn yn with
        | false =>
          rw [hb] at stay put
          rw [if_pos (show nI (false).toNat = 0 from rfl)]
          cases io with
          | false => rw [if_pos (show nI (false).toNat = 0 from rfl)]; exact stay (fun old => rfl)
          | true => rw [if_neg (show ¬ nI (true).toNat = 0 by decide)]; exact put false bf f2 (fun old => rfl)
        | true =>
          rw [hb] at stay put
          rw [if_neg (show ¬ nI (true).toNat = 0 by decide)]
          exact put true bt t2 (fun old => rfl)
    · rw [if_neg (mt c4.mp q4)]; exact off (by omega)
  unfold ex_mSheet_lay jn_mSheet_lay_50
  rw [s4]
  have hr : r = 0 ∨ r = 1 ∨ r = 2 ∨ r = 3 := by omega
  have eW : fd_mSheet_wide os - 1 = iI ((w : Int) - 1) := by rw [s2, nI_iI, iI_lit, iI_sub]; rfl
  have eH : fd_mSheet_high os - 1 = iI ((h : Int) - 1) := by rw [s3, nI_iI, iI_lit, iI_sub]; rfl
  rw [eW, eH, iI_sub, iI_sub, iI_sub, iI_sub]
  rcases hr with rfl | rfl | rfl | rfl
  · rw [if_pos (show nI 0 = 0 from rfl), if_pos (show nI 0 = 0 from rfl)]
    exact core i j (by omega) (by omega) (fun x y hx hy => by unfold iOf jOf; simp)
  · rw [if_neg (show ¬ nI 1 = 0 by decide), if_pos (show nI 1 = 1 from rfl), if_neg (show ¬ nI 1 = 0 by decide), if_pos (show nI 1 = 1 from rfl)]
    exact core j ((h : Int) - 1 - i) (by omega) (by omega) (fun x y hx hy => by unfold iOf jOf; simp; omega)
  · rw [if_neg (show ¬ nI 2 = 0 by decide), if_neg (show ¬ nI 2 = 1 by decide), if_pos (show nI 2 = 2 from rfl), if_neg (show ¬ nI 2 = 0 by decide), if_neg (show ¬ nI 2 = 1 by decide), if_pos (show nI 2 = 2 from rfl)]
    exact core ((w : Int) - 1 - i) ((h : Int) - 1 - j) (by omega) (by omega) (fun x y hx hy => by unfold iOf jOf; simp; omega)
  · rw [if_neg (show ¬ nI 3 = 0 by decide), if_neg (show ¬ nI 3 = 1 by decide), if_neg (show ¬ nI 3 = 2 by decide), if_neg (show ¬ nI 3 = 0 by decide), if_neg (show ¬ nI 3 = 1 by decide), if_neg (show ¬ nI 3 = 2 by decide)]
    exact core ((w : Int) - 1 - j) i (by omega) (by omega) (fun x y hx hy => by unfold iOf jOf; simp; omega)
/-- dots that were laid, of a set -/
def stR (D D' : Nat → Nat → Bool) (sd r w h : Nat) (S srcF : Int → Int → Bool) (kd nu : Nat) (so io : Bool) : Prop := ∀ x y, x < 64 * sd → D' x y = if (decide (x < w ∧ y < h) && S (iOf r w h x y) (jOf r w h x y)) = true then layB (D x y) (srcF (iOf r w h x y) (jOf r w h x y)) (inkB kd nu x y) so io else D x y
theorem st_0 {D : Nat → Nat → Bool} {sd r w h kd nu : Nat} {srcF : Int → Int → Bool} {so io : Bool} (S : Int → Int → Bool) (hS : ∀ i j, S i j = false) : stR D D sd r w h S srcF kd nu so io := fun x y _ => by rw [hS, Bool.and_false, if_neg (by decide)]
theorem st_ext {D D' : Nat → Nat → Bool} {sd r w h kd nu : Nat} {S S' srcF : Int → Int → Bool} {so io : Bool} (hh : stR D D' sd r w h S srcF kd nu so io) (hS : ∀ x y, x < w → y < h → S (iOf r w h x y) (jOf r w h x y) = S' (iOf r w h x y) (jOf r w h x y)) : stR D D' sd r w h S' srcF kd nu so io := fun x y hx => by
  rw [hh x y hx]
  by_cases q : x < w ∧ y < h
  · rw [hS x y q.1 q.2]
  · rw [decide_eq_false q, Bool.false_and, Bool.false_and]
theorem st_lay {N sd w h r nd kd nu : Nat} {os : ob_mSheet} {b : Nat → Int64} {D : Nat → Nat → Bool} {S srcF : Int → Int → Bool} {i j : Int} {so io src : Bool} (hN : 10 < N) (hs : shM os sd w h r nd) (hso : fd_mSheet_sourceOpaque os = nI so.toNat) (hk : kd < 4) (hnu : nu < 128) (h3 : kd = 3 → 0 < nu ∧ nu < 7) (hi : -1000000000 ≤ i ∧ i ≤ 1000000000) (hj : -1000000000 ≤ j ∧ j ≤ 1000000000) (hsrc : src = srcF i j) (hD : stR D (fun x y => wdots b (sd * y) x) sd r w h S srcF kd nu so io) (hS : S i j = false) :
    ∃ b', ex_mSheet_lay N os nd b (iI i) (iI j) (nI src.toNat) (nI kd) (nI nu) (nI io.toNat) = some b' ∧ stR D (fun x y => wdots b' (sd * y) x) sd r w h (fun i' j' => S i' j' || decide (i' = i ∧ j' = j)) srcF kd nu so io := by
  obtain ⟨b', l1, l2⟩ := ml_lay (N := N) (b := b) (i := i) (j := j) src io so hN hs hso hk hnu h3 hi hj
  refine ⟨b', l1, fun x y hx => ?_⟩
  show wdots b' (sd * y) x = if (decide (x < w ∧ y < h) && (S (iOf r w h x y) (jOf r w h x y) || decide (iOf r w h x y = i ∧ jOf r w h x y = j))) = true then layB (D x y) (srcF (iOf r w h x y) (jOf r w h x y)) (inkB kd nu x y) so io else D x y
  rw [l2 x y hx]
  have h1 := hD x y hx
  by_cases q0 : x < w ∧ y < h
  · by_cases q : iOf r w h x y = i ∧ jOf r w h x y = j
    · rw [if_pos ⟨q0, q⟩, decide_eq_true q, Bool.or_true, decide_eq_true q0, Bool.and_true, if_pos rfl]
      rw [q.1, q.2, hS, Bool.and_false, if_neg (by decide)] at h1
      have h1' : wdots b (sd * y) x = D x y := h1
      rw [h1', q.1, q.2, hsrc]
    · rw [if_neg (fun hh => q hh.2), decide_eq_false q, Bool.or_false]; exact h1
  · rw [if_neg (fun hh => q0 hh.1), decide_eq_false q0, Bool.false_and, if_neg (by decide)]
    rw [decide_eq_false q0, Bool.false_and, if_neg (by decide)] at h1
    exact h1
theorem rg_in {N sd w h r nd kd nu W q g : Nat} {os : ob_mSheet} {ok : Int32} {osf : ob_mShelf} {gg gs : Nat → Int32} {D : Nat → Nat → Bool} {srcF : Int → Int → Bool} {i0 j0 : Int} {so io : Bool} {ux uy : Int32} (hN : 10 < N) (hs : shM os sd w h r nd) (hso : fd_mSheet_sourceOpaque os = nI so.toNat) (hio : fd_mSheet_inkOpaque os = nI io.toNat) (hkd : fd_mSheet_ink os = nI kd) (hvn : fd_mSheet_value os = nI nu) (hk : kd < 4) (hnu : nu < 128) (h3 : kd = 3 → 0 < nu ∧ nu < 7)
    (hg : (nI g).toNatClampNeg = g) (hg7 : 7 * g + 6 < 1799) (hW : gg (7 * g + 4) = nI W) (hW1 : W ≤ 128) (hux : ux + gg (7 * g + 2) = iI i0) (huy : uy - gg (7 * g + 3) = iI j0) (hi0 : -100000 ≤ i0 ∧ i0 ≤ 100000) (hj0 : -100000 ≤ j0 ∧ j0 ≤ 100000) (hq : q ≤ 128)
    (hbl : ∀ p, p < W → ex_mShelf_isBlack N osf gg gs (nI g) (nI p) (nI q) = some (nI (srcF (i0 + p) (j0 + q)).toNat)) :
    ∀ (m fu p : Nat) (b : Nat → Int64), W - p = m → m < fu → p ≤ W → stR D (fun x y => wdots b (sd * y) x) sd r w h (fun i' j' => decide (i0 ≤ i' ∧ i' < i0 + W ∧ j0 ≤ j' ∧ j' < j0 + q) || decide (j' = j0 + q ∧ i0 ≤ i' ∧ i' < i0 + p)) srcF kd nu so io →
      ∃ b', lp_Ref_paintGlyph_132e4 N osf gg gs nd (nI g) (nI q) (os, ok) ux uy fu (nI p) b = some b' ∧ stR D (fun x y => wdots b' (sd * y) x) sd r w h (fun i' j' => decide (i0 ≤ i' ∧ i' < i0 + W ∧ j0 ≤ j' ∧ j' < j0 + q) || decide (j' = j0 + q ∧ i0 ≤ i' ∧ i' < i0 + W)) srcF kd nu so io := by
  have e4 : (7 * nI g + 4).toNatClampNeg = 7 * g + 4 := by rw [nI_Lmul, nI_addL]; exact nI_clamp (by omega)
  have e2 : (7 * nI g + 2).toNatClampNeg = 7 * g + 2 := by rw [nI_Lmul, nI_addL]; exact nI_clamp (by omega)
  have e3 : (7 * nI g + 3).toNatClampNeg = 7 * g + 3 := by rw [nI_Lmul, nI_addL]; exact nI_clamp (by omega)
  intro m
  induction m with
  | zero =>
    intro fu p b hm hf hp hD
    obtain ⟨fu, rfl⟩ : ∃ z, fu = z + 1 := ⟨fu - 1, by omega⟩
    have : p = W := by omega
    subst this
    exact ⟨b, by rw [lp_Ref_paintGlyph_132e4, e4, hW, if_pos (nI_le (by omega) (by omega))], hD⟩
  | succ m ih =>
    intro fu p b hm hf hp hD
    obtain ⟨fu, rfl⟩ : ∃ z, fu = z + 1 := ⟨fu - 1, by omega⟩
    obtain ⟨b1, l1, l2⟩ := st_lay (N := N) (os := os) (b := b) (i := i0 + p) (j := j0 + q) hN hs hso hk hnu h3 (by omega) (by omega) rfl hD (by
      show (decide (i0 ≤ i0 + p ∧ i0 + p < i0 + W ∧ j0 ≤ j0 + q ∧ j0 + (q : Int) < j0 + q) || decide (j0 + (q : Int) = j0 + q ∧ i0 ≤ i0 + p ∧ i0 + (p : Int) < i0 + p)) = false
      rw [decide_eq_false (by omega), decide_eq_false (by omega)]; rfl)
    obtain ⟨b', r1, r2⟩ := ih fu (p + 1) b1 (by omega) (by omega) (by omega) (st_ext l2 (fun x y _ _ => by
      rw [Bool.or_assoc]; congr 1; rw [← Bool.decide_or]; exact decide_eq_decide.mpr (by omega)))
    refine ⟨b', ?_, r2⟩
    have ex : ux + gg (7 * g + 2) + nI p = iI (i0 + p) := by rw [hux, nI_iI, iI_add]
    have ey : uy - gg (7 * g + 3) + nI q = iI (j0 + q) := by rw [huy, nI_iI, iI_add]
    rw [lp_Ref_paintGlyph_132e4, e4, hW, if_neg (nI_ge (by omega) (by omega)), hbl p (by omega), e2, e3, ex, ey]
    simp only [Option.bind_some]
    rw [hkd, hvn, hio, l1]
    simp only [Option.bind_some, nI_1]
    exact r1
theorem rg_out {N sd w h r nd kd nu W Dp g : Nat} {os : ob_mSheet} {ok : Int32} {osf : ob_mShelf} {gg gs : Nat → Int32} {D : Nat → Nat → Bool} {srcF : Int → Int → Bool} {i0 j0 : Int} {so io : Bool} {ux uy : Int32} (hN : 200 < N) (hs : shM os sd w h r nd) (hso : fd_mSheet_sourceOpaque os = nI so.toNat) (hio : fd_mSheet_inkOpaque os = nI io.toNat) (hkd : fd_mSheet_ink os = nI kd) (hvn : fd_mSheet_value os = nI nu) (hk : kd < 4) (hnu : nu < 128) (h3 : kd = 3 → 0 < nu ∧ nu < 7)
    (hg : (nI g).toNatClampNeg = g) (hg7 : 7 * g + 6 < 1799) (hW : gg (7 * g + 4) = nI W) (hW1 : W ≤ 128) (hDp : gg (7 * g + 5) = nI Dp) (hD1 : Dp ≤ 128) (hux : ux + gg (7 * g + 2) = iI i0) (huy : uy - gg (7 * g + 3) = iI j0) (hi0 : -100000 ≤ i0 ∧ i0 ≤ 100000) (hj0 : -100000 ≤ j0 ∧ j0 ≤ 100000)
    (hbl : ∀ p q, p < W → q < Dp → ex_mShelf_isBlack N osf gg gs (nI g) (nI p) (nI q) = some (nI (srcF (i0 + p) (j0 + q)).toNat)) :
    ∀ (m fu q : Nat) (b : Nat → Int64), Dp - q = m → m < fu → q ≤ Dp → stR D (fun x y => wdots b (sd * y) x) sd r w h (fun i' j' => decide (i0 ≤ i' ∧ i' < i0 + W ∧ j0 ≤ j' ∧ j' < j0 + q)) srcF kd nu so io →
      ∃ b', lp_Ref_paintGlyph_123d3 N osf gg gs nd (nI g) (os, ok) ux uy fu (nI q) b = some b' ∧ stR D (fun x y => wdots b' (sd * y) x) sd r w h (fun i' j' => decide (i0 ≤ i' ∧ i' < i0 + W ∧ j0 ≤ j' ∧ j' < j0 + Dp)) srcF kd nu so io := by
  have e5 : (7 * nI g + 5).toNatClampNeg = 7 * g + 5 := by rw [nI_Lmul, nI_addL]; exact nI_clamp (by omega)
  intro m
  induction m with
  | zero =>
    intro fu q b hm hf hq hD
    obtain ⟨fu, rfl⟩ : ∃ z, fu = z + 1 := ⟨fu - 1, by omega⟩
    have : q = Dp := by omega
    subst this
    exact ⟨b, by rw [lp_Ref_paintGlyph_123d3, e5, hDp, if_pos (nI_le (by omega) (by omega))], hD⟩
  | succ m ih =>
    intro fu q b hm hf hq hD
    obtain ⟨fu, rfl⟩ : ∃ z, fu = z + 1 := ⟨fu - 1, by omega⟩
    obtain ⟨b1, l1, l2⟩ := rg_in (N := N) (ok := ok) (osf := osf) (gs := gs) (q := q) (by omega) hs hso hio hkd hvn hk hnu h3 hg hg7 hW hW1 hux huy hi0 hj0 (by omega) (fun p hp => hbl p q hp (by omega)) W N 0 b rfl (by omega) (by omega) (st_ext hD (fun x y _ _ => by
      rw [← Bool.decide_or]; exact decide_eq_decide.mpr (by omega)))
    obtain ⟨b', r1, r2⟩ := ih fu (q + 1) b1 (by omega) (by omega) (by omega) (st_ext l2 (fun x y _ _ => by
      rw [← Bool.decide_or]; exact decide_eq_decide.mpr (by omega)))
    refine ⟨b', ?_, r2⟩
    have l1' : lp_Ref_paintGlyph_132e4 N osf gg gs nd (nI g) (nI q) (os, ok) ux uy N 0 b = some b1 := l1
    rw [lp_Ref_paintGlyph_123d3, e5, hDp, if_neg (nI_ge (by omega) (by omega)), l1']
    simp only [Option.bind_some, nI_1]
    exact r1
theorem ml_across {N sd w h r nd : Nat} {os : ob_mSheet} (hs : shM os sd w h r nd) : ex_mSheet_across N os = some (nI (if r % 2 = 0 then w else h)) ∧ ex_mSheet_down N os = some (nI (if r % 2 = 0 then h else w)) := by
  obtain ⟨s1, s2, s3, s4, s5, s6, s7, s8, s9, s10⟩ := hs
  have e : nI r - nI r / 2 * 2 = nI (r % 2) := nI_mod (b := 2) (by omega) (by omega)
  unfold ex_mSheet_across ex_mSheet_down
  simp only [dk_let, s4, e, s2, s3]
  rcases Nat.mod_two_eq_zero_or_one r with q | q
  · rw [q, if_pos (show nI 0 = 0 from rfl), if_pos (show nI 0 = 0 from rfl)]; exact ⟨rfl, rfl⟩
  · rw [q, if_neg (show ¬ nI 1 = 0 by decide), if_neg (show ¬ nI 1 = 0 by decide)]; exact ⟨rfl, rfl⟩
theorem ij_in {r w h x y : Nat} (hr : r < 4) (hx : x < w) (hy : y < h) : 0 ≤ iOf r w h x y ∧ iOf r w h x y < (if r % 2 = 0 then w else h : Nat) ∧ 0 ≤ jOf r w h x y ∧ jOf r w h x y < (if r % 2 = 0 then h else w : Nat) := by
  have : r = 0 ∨ r = 1 ∨ r = 2 ∨ r = 3 := by omega
  rcases this with rfl | rfl | rfl | rfl <;> unfold iOf jOf <;> simp <;> omega
theorem rr_in {N sd w h r nd kd nu n wd i0 : Nat} {jc : Int} {os : ob_mSheet} {ok : Int32} {D : Nat → Nat → Bool} {S : Int → Int → Bool} {so io : Bool} {y7 : Int64} (hN : 10 < N) (hs : shM os sd w h r nd) (hso : fd_mSheet_sourceOpaque os = nI so.toNat) (hio : nI io.toNat = if nI n = 1 then 1 else fd_mSheet_inkOpaque os) (hio2 : fd_mSheet_inkOpaque os = 0 ∨ fd_mSheet_inkOpaque os = 1) (hk : kd < 4) (hnu : nu < 128) (h3 : kd = 3 → 0 < nu ∧ nu < 7) (hi0 : i0 ≤ 100000) (hjc : -100000 ≤ jc ∧ jc ≤ 1000000) (hy7 : y7 / 7200 = lI (wd : Int)) (hwd : wd ≤ 100000) (hS : ∀ i', S i' jc = false) :
    ∀ (m fu p : Nat) (b : Nat → Int64), (if r % 2 = 0 then w else h) + 1 - p = m → m < fu → i0 ≤ p → p < 2 ^ 21 → stR D (fun x y => wdots b (sd * y) x) sd r w h (fun i' j' => S i' j' || decide (j' = jc ∧ (i0 : Int) ≤ i' ∧ i' < p)) (fun _ _ => true) kd nu so io → (p : Int) ≤ i0 + wd →
      ∃ b', lp_Ref_rule_214m12 N nd (nI n) (nI i0) y7 (os, ok) (iI jc) (nI kd) (nI nu) fu (nI p) b = some b' ∧ stR D (fun x y => wdots b' (sd * y) x) sd r w h (fun i' j' => S i' j' || decide (j' = jc ∧ (i0 : Int) ≤ i' ∧ i' < i0 + wd)) (fun _ _ => true) kd nu so io := by
  have hac := (ml_across (N := N) hs).1
  have hs5 := hs.2.2.2.2.1
  have s9 := hs.2.2.2.2.2.2.2.2.1
  have s10 := hs.2.2.2.2.2.2.2.2.2
  intro m
  induction m with
  | zero =>
    intro fu p b hm hf hp hp2 hD hpw
    obtain ⟨fu, rfl⟩ : ∃ z, fu = z + 1 := ⟨fu - 1, by omega⟩
    have hgo : stR D (fun x y => wdots b (sd * y) x) sd r w h (fun i' j' => S i' j' || decide (j' = jc ∧ (i0 : Int) ≤ i' ∧ i' < i0 + wd)) (fun _ _ => true) kd nu so io := st_ext hD (fun x y hx hy => by
      have := ij_in (r := r) hs5 hx hy
      congr 1; exact decide_eq_decide.mpr (by omega))
    have hc : (0 : Int32) ≤ lg_cmp ((nI p).toInt64) ((nI i0).toInt64 + y7 / 7200) ↔ ((i0 : Int) + wd ≤ p) := by rw [nI_lI (by omega), nI_lI (by omega), hy7, lI_add]; exact lcmp_ge (by omega) (by omega)
    refine ⟨b, ?_, hgo⟩
    rw [lp_Ref_rule_214m12]
    by_cases q : (i0 : Int) + wd ≤ p
    · rw [if_pos (hc.mpr q)]
    · rw [if_neg (mt hc.mp q), hac]
      simp only [Option.bind_some]
      rw [if_pos (nI_le (by omega) (by omega))]
  | succ m ih =>
    intro fu p b hm hf hp hp2 hD hpw
    obtain ⟨fu, rfl⟩ : ∃ z, fu = z + 1 := ⟨fu - 1, by omega⟩
    have hc : (0 : Int32) ≤ lg_cmp ((nI p).toInt64) ((nI i0).toInt64 + y7 / 7200) ↔ ((i0 : Int) + wd ≤ p) := by rw [nI_lI (by omega), nI_lI (by omega), hy7, lI_add]; exact lcmp_ge (by omega) (by omega)
    rw [lp_Ref_rule_214m12]
    by_cases q : (i0 : Int) + wd ≤ p
    · rw [if_pos (hc.mpr q)]
      exact ⟨b, rfl, st_ext hD (fun x y hx hy => by congr 1; exact decide_eq_decide.mpr (by omega))⟩
    · rw [if_neg (mt hc.mp q), hac]
      simp only [Option.bind_some]
      by_cases q2 : (if r % 2 = 0 then w else h) ≤ p
      · rw [if_pos (nI_le q2 (by omega))]
        exact ⟨b, rfl, st_ext hD (fun x y hx hy => by
          have := ij_in (r := r) hs5 hx hy
          congr 1; exact decide_eq_decide.mpr (by omega))⟩
      · rw [if_neg (nI_ge (by omega) (by split <;> omega))]
        obtain ⟨b1, l1, l2⟩ := st_lay (N := N) (os := os) (b := b) (src := true) (i := (p : Int)) (j := jc) hN hs hso hk hnu h3 (by omega) (by omega) rfl hD (by
          show (S p jc || decide (jc = jc ∧ (i0 : Int) ≤ p ∧ (p : Int) < p)) = false
          rw [hS, decide_eq_false (by omega)]; rfl)
        obtain ⟨b', r1, r2⟩ := ih fu (p + 1) b1 (by omega) (by omega) (by omega) (by omega) (st_ext l2 (fun x y _ _ => by
          rw [Bool.or_assoc]; congr 1; rw [← Bool.decide_or]; exact decide_eq_decide.mpr (by omega))) (by omega)
        refine ⟨b', ?_, r2⟩
        unfold jn_Ref_rule_265o14 jn_Ref_rule_270n13
        have l1' : ex_mSheet_lay N os nd b (nI p) (iI jc) 1 (nI kd) (nI nu) (nI io.toNat) = some b1 := l1
        by_cases qn : nI n = 1
        · rw [if_pos qn] at hio
          rw [hio] at l1'
          rw [if_pos qn, l1']
          simp only [Option.bind_some, nI_1]; exact r1
        · rw [if_neg qn] at hio
          rw [if_neg qn]
          rcases hio2 with z | z
          · rw [z] at hio
            rw [hio] at l1'
            rw [if_pos z, l1']
            simp only [Option.bind_some, nI_1]; exact r1
          · rw [z] at hio
            rw [hio] at l1'
            rw [if_neg (by rw [z]; decide), l1']
            simp only [Option.bind_some, nI_1]; exact r1
theorem rr_out {N sd w h r nd kd nu n wd hg i0 j0 : Nat} {os : ob_mSheet} {ok : Int32} {D : Nat → Nat → Bool} {so io : Bool} {y7 y8 : Int64} (hN : 2 ^ 21 < N) (hs : shM os sd w h r nd) (hso : fd_mSheet_sourceOpaque os = nI so.toNat) (hio : nI io.toNat = if nI n = 1 then 1 else fd_mSheet_inkOpaque os) (hio2 : fd_mSheet_inkOpaque os = 0 ∨ fd_mSheet_inkOpaque os = 1) (hk : kd < 4) (hnu : nu < 128) (h3 : kd = 3 → 0 < nu ∧ nu < 7) (hi0 : i0 ≤ 100000) (hj0 : j0 ≤ 100000) (hy7 : y7 / 7200 = lI (wd : Int)) (hwd : wd ≤ 100000) (hy8 : y8 / 7200 = lI (hg : Int)) (hhg : hg ≤ 100000) :
    ∀ (m fu q : Nat) (b : Nat → Int64), (if r % 2 = 0 then h else w) + 1 - q = m → m < fu → j0 ≤ q → q < 2 ^ 21 → stR D (fun x y => wdots b (sd * y) x) sd r w h (fun i' j' => decide ((j0 : Int) ≤ j' ∧ j' < q ∧ (i0 : Int) ≤ i' ∧ i' < i0 + wd)) (fun _ _ => true) kd nu so io → (q : Int) ≤ j0 + hg →
      ∃ b', lp_Ref_rule_185l11 N nd (nI n) (nI j0) y8 (os, ok) (nI i0) y7 (nI kd) (nI nu) fu (nI q) b = some b' ∧ stR D (fun x y => wdots b' (sd * y) x) sd r w h (fun i' j' => decide ((j0 : Int) ≤ j' ∧ j' < j0 + hg ∧ (i0 : Int) ≤ i' ∧ i' < i0 + wd)) (fun _ _ => true) kd nu so io := by
  have hdn := (ml_across (N := N) hs).2
  have hs5 := hs.2.2.2.2.1
  have s9 := hs.2.2.2.2.2.2.2.2.1
  have s10 := hs.2.2.2.2.2.2.2.2.2
  intro m
  induction m with
  | zero =>
    intro fu q b hm hf hq hq2 hD hqh
    obtain ⟨fu, rfl⟩ : ∃ z, fu = z + 1 := ⟨fu - 1, by omega⟩
    have hc : (0 : Int32) ≤ lg_cmp ((nI q).toInt64) ((nI j0).toInt64 + y8 / 7200) ↔ ((j0 : Int) + hg ≤ q) := by rw [nI_lI (by omega), nI_lI (by omega), hy8, lI_add]; exact lcmp_ge (by omega) (by omega)
    refine ⟨b, ?_, st_ext hD (fun x y hx hy => by
      have := ij_in (r := r) hs5 hx hy
      exact decide_eq_decide.mpr (by omega))⟩
    rw [lp_Ref_rule_185l11]
    by_cases c : (j0 : Int) + hg ≤ q
    · rw [if_pos (hc.mpr c)]
    · rw [if_neg (mt hc.mp c), hdn]
      simp only [Option.bind_some]
      rw [if_pos (nI_le (by omega) (by omega))]
  | succ m ih =>
    intro fu q b hm hf hq hq2 hD hqh
    obtain ⟨fu, rfl⟩ : ∃ z, fu = z + 1 := ⟨fu - 1, by omega⟩
    have hc : (0 : Int32) ≤ lg_cmp ((nI q).toInt64) ((nI j0).toInt64 + y8 / 7200) ↔ ((j0 : Int) + hg ≤ q) := by rw [nI_lI (by omega), nI_lI (by omega), hy8, lI_add]; exact lcmp_ge (by omega) (by omega)
    rw [lp_Ref_rule_185l11]
    by_cases c : (j0 : Int) + hg ≤ q
    · rw [if_pos (hc.mpr c)]
      exact ⟨b, rfl, st_ext hD (fun x y hx hy => decide_eq_decide.mpr (by omega))⟩
    · rw [if_neg (mt hc.mp c), hdn]
      simp only [Option.bind_some]
      by_cases c2 : (if r % 2 = 0 then h else w) ≤ q
      · rw [if_pos (nI_le c2 (by omega))]
        exact ⟨b, rfl, st_ext hD (fun x y hx hy => by
          have := ij_in (r := r) hs5 hx hy
          exact decide_eq_decide.mpr (by omega))⟩
      · rw [if_neg (nI_ge (by omega) (by split <;> omega))]
        have hac2 : (if r % 2 = 0 then w else h) < 2 ^ 20 := by split <;> omega
        obtain ⟨b1, l1, l2⟩ := rr_in (N := N) (n := n) (ok := ok) (jc := (q : Int)) (S := fun i' j' => decide ((j0 : Int) ≤ j' ∧ j' < q ∧ (i0 : Int) ≤ i' ∧ i' < i0 + wd)) (by omega) hs hso hio hio2 hk hnu h3 hi0 (by omega) hy7 hwd (fun i' => decide_eq_false (by omega)) ((if r % 2 = 0 then w else h) + 1 - i0) N i0 b rfl (by omega) (Nat.le_refl _) (by omega) (st_ext hD (fun x y _ _ => by
          rw [← Bool.decide_or]; exact decide_eq_decide.mpr (by omega))) (by omega)
        obtain ⟨b', r1, r2⟩ := ih fu (q + 1) b1 (by omega) (by omega) (by omega) (by split at c2 <;> omega) (st_ext l2 (fun x y _ _ => by
          rw [← Bool.decide_or]; exact decide_eq_decide.mpr (by omega))) (by omega)
        refine ⟨b', ?_, r2⟩
        have l1' : lp_Ref_rule_214m12 N nd (nI n) (nI i0) y7 (os, ok) (nI q) (nI kd) (nI nu) N (nI i0) b = some b1 := l1
        rw [l1']
        simp only [Option.bind_some, nI_1]
        exact r1
theorem rw_in {N sd w h r nd kd nu k sc rw_ W p : Nat} {os : ob_mSheet} {ok : Int32} {or : ob_Ref} {g gm : Nat → Int32} {D : Nat → Nat → Bool} {S srcF : Int → Int → Bool} {i0 j0 : Int} {so io : Bool} {ux uy : Int32} (hN : 10 < N) (hs : shM os sd w h r nd) (hso : fd_mSheet_sourceOpaque os = nI so.toNat) (hio : fd_mSheet_inkOpaque os = nI io.toNat) (hkd : fd_mSheet_ink os = nI kd) (hvn : fd_mSheet_value os = nI nu) (hk : kd < 4) (hnu : nu < 128) (h3 : kd = 3 → 0 < nu ∧ nu < 7)
    (hsc : fd_Ref_scale or = nI sc) (hsc4 : 1 ≤ sc ∧ sc ≤ 4) (hrw : fd_Ref_row or = nI rw_) (hWd : fd_Ref_rasterWidth or = nI W) (hW2 : W ≤ 5119) (hk5 : k < 5120) (hsd : sdR g gm) (hux : ux = iI i0) (huy : uy + nI sc * nI rw_ = iI j0) (hi0 : -100000 ≤ i0 ∧ i0 ≤ 100000) (hj0 : -100000 ≤ j0 ∧ j0 ≤ 900000000) (hp : p < sc)
    (hsrc : ∀ q, q < sc → srcF (i0 + sc * k + p) (j0 + q) = rbB g W k) (hS : ∀ q : Nat, q < sc → S (i0 + sc * k + p) (j0 + q) = false) :
    ∀ (m fu q : Nat) (b : Nat → Int64), sc - q = m → m < fu → q ≤ sc → stR D (fun x y => wdots b (sd * y) x) sd r w h (fun i' j' => S i' j' || decide (i' = i0 + sc * k + p ∧ j0 ≤ j' ∧ j' < j0 + q)) srcF kd nu so io →
      ∃ b', lp_Ref_paintRow_70n13 N or gm nd (nI k) (os, ok) ux (nI p) uy fu (nI q) b = some b' ∧ stR D (fun x y => wdots b' (sd * y) x) sd r w h (fun i' j' => S i' j' || decide (i' = i0 + sc * k + p ∧ j0 ≤ j' ∧ j' < j0 + sc)) srcF kd nu so io := by
  intro m
  induction m with
  | zero =>
    intro fu q b hm hf hq hD
    obtain ⟨fu, rfl⟩ : ∃ z, fu = z + 1 := ⟨fu - 1, by omega⟩
    have : q = sc := by omega
    subst this
    exact ⟨b, by rw [lp_Ref_paintRow_70n13, hsc, if_pos (nI_le (by omega) (by omega))], hD⟩
  | succ m ih =>
    intro fu q b hm hf hq hD
    obtain ⟨fu, rfl⟩ : ∃ z, fu = z + 1 := ⟨fu - 1, by omega⟩
    have hck : sc * k ≤ 4 * 5120 := Nat.mul_le_mul hsc4.2 (by omega)
    obtain ⟨z, hz⟩ : ∃ z : Int, z = i0 + sc * k + p := ⟨_, rfl⟩
    have hzb : -1000000 ≤ z ∧ z ≤ 1000000 := by
      have h1 : ((sc * k : Nat) : Int) = (sc : Int) * k := Int.natCast_mul _ _
      omega
    rw [← hz] at hD ⊢
    rw [← hz] at hsrc hS ih
    obtain ⟨b1, l1, l2⟩ := st_lay (N := N) (os := os) (b := b) (i := z) (j := j0 + q) (src := rbB g W k) hN hs hso hk hnu h3 (by omega) (by omega) (hsrc q (by omega)).symm hD (by
      show (S z (j0 + q) || decide (z = z ∧ j0 ≤ j0 + (q : Int) ∧ j0 + (q : Int) < j0 + q)) = false
      rw [hS q (by omega), decide_eq_false (by omega)]; rfl)
    obtain ⟨b', r1, r2⟩ := ih fu (q + 1) b1 (by omega) (by omega) (by omega) (st_ext l2 (fun x y _ _ => by
      rw [Bool.or_assoc]; congr 1; rw [← Bool.decide_or]; exact decide_eq_decide.mpr (by omega)))
    refine ⟨b', ?_, r2⟩
    have ex : ux + nI sc * nI k + nI p = iI z := by rw [hux, hz, nI_mul, nI_iI, nI_iI, iI_add, iI_add, Int.natCast_mul]
    have ey : uy + nI sc * nI rw_ + nI q = iI (j0 + q) := by rw [huy, nI_iI, iI_add]
    rw [lp_Ref_paintRow_70n13, hsc, if_neg (nI_ge (by omega) (by omega)), rm_isBlack hWd hW2 hk5 hsd]
    simp only [Option.bind_some]
    rw [ex, hrw, ey, hkd, hvn, hio, l1]
    simp only [Option.bind_some, nI_1]
    exact r1
theorem rw_mid {N sd w h r nd kd nu k sc rw_ W : Nat} {os : ob_mSheet} {ok : Int32} {or : ob_Ref} {g gm : Nat → Int32} {D : Nat → Nat → Bool} {S srcF : Int → Int → Bool} {i0 j0 : Int} {so io : Bool} {ux uy : Int32} (hN : 10 < N) (hs : shM os sd w h r nd) (hso : fd_mSheet_sourceOpaque os = nI so.toNat) (hio : fd_mSheet_inkOpaque os = nI io.toNat) (hkd : fd_mSheet_ink os = nI kd) (hvn : fd_mSheet_value os = nI nu) (hk : kd < 4) (hnu : nu < 128) (h3 : kd = 3 → 0 < nu ∧ nu < 7)
    (hsc : fd_Ref_scale or = nI sc) (hsc4 : 1 ≤ sc ∧ sc ≤ 4) (hrw : fd_Ref_row or = nI rw_) (hWd : fd_Ref_rasterWidth or = nI W) (hW2 : W ≤ 5119) (hk5 : k < 5120) (hsd : sdR g gm) (hux : ux = iI i0) (huy : uy + nI sc * nI rw_ = iI j0) (hi0 : -100000 ≤ i0 ∧ i0 ≤ 100000) (hj0 : -100000 ≤ j0 ∧ j0 ≤ 900000000)
    (hsrc : ∀ p q : Nat, p < sc → q < sc → srcF (i0 + sc * k + p) (j0 + q) = rbB g W k) (hS : ∀ p q : Nat, p < sc → q < sc → S (i0 + sc * k + p) (j0 + q) = false) :
    ∀ (m fu p : Nat) (b : Nat → Int64), sc - p = m → m < fu → p ≤ sc → stR D (fun x y => wdots b (sd * y) x) sd r w h (fun i' j' => S i' j' || decide (i0 + sc * k ≤ i' ∧ i' < i0 + sc * k + p ∧ j0 ≤ j' ∧ j' < j0 + sc)) srcF kd nu so io →
      ∃ b', lp_Ref_paintRow_58m12 N or gm nd (nI k) (os, ok) ux uy fu (nI p) b = some b' ∧ stR D (fun x y => wdots b' (sd * y) x) sd r w h (fun i' j' => S i' j' || decide (i0 + sc * k ≤ i' ∧ i' < i0 + sc * k + sc ∧ j0 ≤ j' ∧ j' < j0 + sc)) srcF kd nu so io := by
  intro m
  induction m with
  | zero =>
    intro fu p b hm hf hp hD
    obtain ⟨fu, rfl⟩ : ∃ z, fu = z + 1 := ⟨fu - 1, by omega⟩
    have : p = sc := by omega
    subst this
    exact ⟨b, by rw [lp_Ref_paintRow_58m12, hsc, if_pos (nI_le (by omega) (by omega))], hD⟩
  | succ m ih =>
    intro fu p b hm hf hp hD
    obtain ⟨fu, rfl⟩ : ∃ z, fu = z + 1 := ⟨fu - 1, by omega⟩
    obtain ⟨b1, l1, l2⟩ := rw_in (N := N) (ok := ok) (p := p) (S := fun i' j' => S i' j' || decide (i0 + sc * k ≤ i' ∧ i' < i0 + sc * k + p ∧ j0 ≤ j' ∧ j' < j0 + sc)) hN hs hso hio hkd hvn hk hnu h3 hsc hsc4 hrw hWd hW2 hk5 hsd hux huy hi0 hj0 (by omega) (fun q hq => hsrc p q (by omega) hq) (fun q hq => by
      show (S (i0 + sc * k + p) (j0 + q) || decide (i0 + sc * k ≤ i0 + sc * k + (p : Int) ∧ i0 + sc * k + (p : Int) < i0 + sc * k + p ∧ j0 ≤ j0 + (q : Int) ∧ j0 + (q : Int) < j0 + sc)) = false
      rw [hS p q (by omega) hq, decide_eq_false (by omega)]; rfl) sc N 0 b rfl (by omega) (by omega) (st_ext hD (fun x y _ _ => by
      have e : decide (iOf r w h x y = i0 + sc * k + p ∧ j0 ≤ jOf r w h x y ∧ jOf r w h x y < j0 + (0 : Nat)) = false := decide_eq_false (by omega)
      rw [e, Bool.or_false]))
    obtain ⟨b', r1, r2⟩ := ih fu (p + 1) b1 (by omega) (by omega) (by omega) (st_ext l2 (fun x y _ _ => by
      rw [Bool.or_assoc]; congr 1; rw [← Bool.decide_or]; exact decide_eq_decide.mpr (by omega)))
    refine ⟨b', ?_, r2⟩
    have l1' : lp_Ref_paintRow_70n13 N or gm nd (nI k) (os, ok) ux (nI p) uy N 0 b = some b1 := l1
    rw [lp_Ref_paintRow_58m12, hsc, if_neg (nI_ge (by omega) (by omega)), l1']
    simp only [Option.bind_some, nI_1]
    exact r1
theorem rw_out {N sd w h r nd kd nu dt sc rw_ W : Nat} {os : ob_mSheet} {ok : Int32} {or : ob_Ref} {g gm : Nat → Int32} {D : Nat → Nat → Bool} {i0 j0 : Int} {so io : Bool} {ux uy : Int32} (hN : 10000 < N) (hs : shM os sd w h r nd) (hso : fd_mSheet_sourceOpaque os = nI so.toNat) (hio : fd_mSheet_inkOpaque os = nI io.toNat) (hkd : fd_mSheet_ink os = nI kd) (hvn : fd_mSheet_value os = nI nu) (hk : kd < 4) (hnu : nu < 128) (h3 : kd = 3 → 0 < nu ∧ nu < 7)
    (hsc : fd_Ref_scale or = nI sc) (hsc4 : 1 ≤ sc ∧ sc ≤ 4) (hrw : fd_Ref_row or = nI rw_) (hWd : fd_Ref_rasterWidth or = nI W) (hW2 : W ≤ 5119) (hdt : dt ≤ 5120) (hsd : sdR g gm) (hux : ux = iI i0) (huy : uy + nI sc * nI rw_ = iI j0) (hi0 : -100000 ≤ i0 ∧ i0 ≤ 100000) (hj0 : -100000 ≤ j0 ∧ j0 ≤ 900000000) :
    ∀ (m fu k : Nat) (b : Nat → Int64), dt - k = m → m < fu → k ≤ dt → stR D (fun x y => wdots b (sd * y) x) sd r w h (fun i' j' => decide (i0 ≤ i' ∧ i' < i0 + (sc * k : Nat) ∧ j0 ≤ j' ∧ j' < j0 + sc)) (fun i' _ => rbB g W ((i' - i0).toNat / sc)) kd nu so io →
      ∃ b', lp_Ref_paintRow_49j9 N or gm nd (nI dt) (os, ok) ux uy fu (nI k) b = some b' ∧ stR D (fun x y => wdots b' (sd * y) x) sd r w h (fun i' j' => decide (i0 ≤ i' ∧ i' < i0 + (sc * dt : Nat) ∧ j0 ≤ j' ∧ j' < j0 + sc)) (fun i' _ => rbB g W ((i' - i0).toNat / sc)) kd nu so io := by
  intro m
  induction m with
  | zero =>
    intro fu k b hm hf hkd2 hD
    obtain ⟨fu, rfl⟩ : ∃ z, fu = z + 1 := ⟨fu - 1, by omega⟩
    have : k = dt := by omega
    subst this
    exact ⟨b, by rw [lp_Ref_paintRow_49j9, if_pos (nI_le (by omega) (by omega))], hD⟩
  | succ m ih =>
    intro fu k b hm hf hkd2 hD
    obtain ⟨fu, rfl⟩ : ∃ z, fu = z + 1 := ⟨fu - 1, by omega⟩
    have hmul : ((sc * k : Nat) : Int) = (sc : Int) * k := Int.natCast_mul _ _
    have hms : sc * (k + 1) = sc * k + sc := Nat.mul_succ _ _
    obtain ⟨b1, l1, l2⟩ := rw_mid (N := N) (ok := ok) (k := k) (srcF := fun i' _ => rbB g W ((i' - i0).toNat / sc)) (S := fun i' j' => decide (i0 ≤ i' ∧ i' < i0 + (sc * k : Nat) ∧ j0 ≤ j' ∧ j' < j0 + sc)) (by omega) hs hso hio hkd hvn hk hnu h3 hsc hsc4 hrw hWd hW2 (by omega) hsd hux huy hi0 hj0 (fun p q hp hq => by
      show rbB g W ((i0 + sc * k + p - i0).toNat / sc) = rbB g W k
      have e : (i0 + sc * k + p - i0).toNat = sc * k + p := by omega
      rw [e, Nat.mul_add_div (by omega), Nat.div_eq_of_lt hp, Nat.add_zero]) (fun p q hp hq => by
      show decide (i0 ≤ i0 + sc * k + (p : Int) ∧ i0 + sc * k + (p : Int) < i0 + (sc * k : Nat) ∧ j0 ≤ j0 + (q : Int) ∧ j0 + (q : Int) < j0 + sc) = false
      exact decide_eq_false (by omega)) sc N 0 b rfl (by omega) (by omega) (st_ext hD (fun x y _ _ => by
      have e : decide (i0 + sc * k ≤ iOf r w h x y ∧ iOf r w h x y < i0 + sc * k + (0 : Nat) ∧ j0 ≤ jOf r w h x y ∧ jOf r w h x y < j0 + sc) = false := decide_eq_false (by omega)
      rw [e, Bool.or_false]))
    obtain ⟨b', r1, r2⟩ := ih fu (k + 1) b1 (by omega) (by omega) (by omega) (st_ext l2 (fun x y _ _ => by
      rw [← Bool.decide_or, hms]; exact decide_eq_decide.mpr (by omega)))
    refine ⟨b', ?_, r2⟩
    have l1' : lp_Ref_paintRow_58m12 N or gm nd (nI k) (os, ok) ux uy N 0 b = some b1 := l1
    rw [lp_Ref_paintRow_49j9, if_neg (nI_ge (by omega) (by omega)), l1']
    simp only [Option.bind_some, nI_1]
    exact r1
/-- the place of a mark on the sheet -/
def plX (r w h : Nat) (i0 j0 : Int) : Int := if r = 0 then i0 else if r = 1 then j0 else if r = 2 then (w : Int) - 1 - i0 else (w : Int) - 1 - j0
def plY (r w h : Nat) (i0 j0 : Int) : Int := if r = 0 then j0 else if r = 1 then (h : Int) - 1 - i0 else if r = 2 then (h : Int) - 1 - j0 else i0
theorem pl_pq {r w h x y : Nat} {i0 j0 : Int} (hr : r < 4) : pM r (plX r w h i0 j0) (plY r w h i0 j0) x y = iOf r w h x y - i0 ∧ qM r (plX r w h i0 j0) (plY r w h i0 j0) x y = jOf r w h x y - j0 := by
  have : r = 0 ∨ r = 1 ∨ r = 2 ∨ r = 3 := by omega
  rcases this with rfl | rfl | rfl | rfl <;> unfold pM qM plX plY acrM dwnM iOf jOf <;> simp <;> omega
theorem nI_or {a b : Nat} (ha : a < 2 ^ 31) (hb : b < 2 ^ 31) : nI a ||| nI b = nI (a ||| b) := by
  apply Int32.toBitVec_inj.mp
  rw [Int32.toBitVec_or]
  show (BitVec.ofNat 32 a) ||| (BitVec.ofNat 32 b) = BitVec.ofNat 32 (a ||| b)
  apply BitVec.eq_of_toNat_eq
  have h3 : a ||| b < 2 ^ 31 := Nat.or_lt_two_pow ha hb
  rw [BitVec.toNat_or, BitVec.toNat_ofNat, BitVec.toNat_ofNat, BitVec.toNat_ofNat, Nat.mod_eq_of_lt (by omega), Nat.mod_eq_of_lt (by omega), Nat.mod_eq_of_lt (by omega)]
theorem nI_shl {a k : Nat} (hk : k < 31) (ha : a * 2 ^ k < 2 ^ 31) : nI a <<< (nI k &&& 31) = nI (a * 2 ^ k) := by
  have e : (nI k &&& 31).toBitVec.smod 32 = BitVec.ofNat 32 k := by
    have : ∀ k, k < 31 → (nI k &&& 31).toBitVec.smod 32 = BitVec.ofNat 32 k := by decide +kernel
    exact this k hk
  apply Int32.toBitVec_inj.mp
  rw [Int32.toBitVec_shiftLeft, e]
  show (BitVec.ofNat 32 a) <<< (BitVec.ofNat 32 k).toNat = BitVec.ofNat 32 (a * 2 ^ k)
  apply BitVec.eq_of_toNat_eq
  have h1 : a ≤ a * 2 ^ k := Nat.le_mul_of_pos_right a (Nat.two_pow_pos k)
  rw [BitVec.toNat_shiftLeft, BitVec.toNat_ofNat, BitVec.toNat_ofNat, BitVec.toNat_ofNat, Nat.mod_eq_of_lt (show k < 2 ^ 32 by omega), Nat.mod_eq_of_lt (show a < 2 ^ 32 by omega), Nat.shiftLeft_eq]
theorem or_hi {a b : Nat} (k : Nat) (hb : b < 2 ^ k) : b ||| (a * 2 ^ k) = b + a * 2 ^ k := by
  rw [Nat.or_comm, Nat.mul_comm, ← Nat.two_pow_add_eq_or_of_lt hb, Nat.add_comm]
theorem or_sc {q r sc : Nat} (hr : r < 4) (hsc : sc < 8) : (q * 32 + r) ||| (4 * sc) = q * 32 + r + 4 * sc := by
  have e1 : q * 32 + r = (q * 32) ||| r := by rw [Nat.or_comm]; have := or_hi (a := q) (b := r) 5 (by omega); rw [show (32 : Nat) = 2 ^ 5 from rfl, this, Nat.add_comm]
  have e2 : r ||| (4 * sc) = r + 4 * sc := by
    have := or_hi (a := sc) (b := r) 2 (by omega)
    rw [show 4 * sc = sc * 2 ^ 2 by omega, this]
  rw [e1, Nat.or_assoc, e2, Nat.or_comm, show (32 : Nat) = 2 ^ 5 from rfl, or_hi 5 (show r + 4 * sc < 2 ^ 5 by omega)]
  have e3 : q * 2 ^ 5 ||| r = q * 2 ^ 5 + r := by rw [Nat.or_comm, or_hi 5 (by omega), Nat.add_comm]
  rw [e3]; omega
def lkA (r kd nu : Nat) (io so : Bool) : Nat := r + 32 * kd + 128 * (if 2 ≤ kd then nu else 0) + 16384 * io.toNat + 32768 * so.toNat
theorem sh_inkLook {N r kd nu : Nat} {io so : Bool} {o : ob_Sheet} {op : ob_Page} {nn : Int32} (hr : r < 4) (hkd : kd < 4) (hnu : nu < 128) (hop : fd_Page_orientation op = nI r) (hso : fd_Sheet_sourceOpaque o = nI so.toNat) (hnn : 2 ≤ kd → nn = nI nu) : ex_Sheet_inkLook N o op (nI kd) nn (nI io.toNat) = some (nI (lkA r kd nu io so)) := by
  have e5 : nI kd <<< ((5 : Int32) &&& 31) = nI (kd * 2 ^ 5) := nI_shl (k := 5) (by omega) (by omega)
  have e7 : nI nu <<< ((7 : Int32) &&& 31) = nI (nu * 2 ^ 7) := nI_shl (k := 7) (by omega) (by omega)
  have o1 : nI r ||| nI (kd * 2 ^ 5) = nI (r + kd * 2 ^ 5) := by rw [nI_or (by omega) (by omega), or_hi 5 (by omega)]
  have o2 : nI (r + kd * 2 ^ 5) ||| nI (nu * 2 ^ 7) = nI (r + kd * 2 ^ 5 + nu * 2 ^ 7) := by rw [nI_or (by omega) (by omega), or_hi 7 (by omega)]
  have oz : ∀ a : Nat, nI a ||| 0 = nI a := fun a => by
    apply Int32.toBitVec_inj.mp; rw [Int32.toBitVec_or]; show (BitVec.ofNat 32 a) ||| 0#32 = _; rw [BitVec.or_zero]; rfl
  have o3 : ∀ a : Nat, a < 16384 → nI a ||| 16384 = nI (a + 16384) := fun a ha => by
    have : nI a ||| nI (1 * 2 ^ 14) = nI (a + 1 * 2 ^ 14) := by rw [nI_or (by omega) (by omega), or_hi 14 (by omega)]
    exact this
  have o4 : ∀ a : Nat, a < 32768 → nI a ||| 32768 = nI (a + 32768) := fun a ha => by
    have : nI a ||| nI (1 * 2 ^ 15) = nI (a + 1 * 2 ^ 15) := by rw [nI_or (by omega) (by omega), or_hi 15 (by omega)]
    exact this
  have t0 : ¬ nI (true).toNat = 0 := by decide
  have f0 : nI (false).toNat = 0 := rfl
  unfold ex_Sheet_inkLook lkA
  simp only [hop, e5, hso, o1, dk_let]
  by_cases q : 2 ≤ kd
  · rw [hnn q, e7, o2]
    have hb : r + kd * 2 ^ 5 + nu * 2 ^ 7 < 16384 := by omega
    have main : (if nI io.toNat = 0 then (if nI so.toNat = 0 then some (nI (r + kd * 2 ^ 5 + nu * 2 ^ 7) ||| 0 ||| 0) else some (nI (r + kd * 2 ^ 5 + nu * 2 ^ 7) ||| 0 ||| 32768)) else (if nI so.toNat = 0 then some (nI (r + kd * 2 ^ 5 + nu * 2 ^ 7) ||| 16384 ||| 0) else some (nI (r + kd * 2 ^ 5 + nu * 2 ^ 7) ||| 16384 ||| 32768))) = some (nI (r + 32 * kd + 128 * (if 2 ≤ kd then nu else 0) + 16384 * io.toNat + 32768 * so.toNat)) := by
      rw [if_pos q]
      cases io <;> cases so <;> simp only [if_neg t0, if_pos f0, oz, o3 _ hb] <;> (try rw [o4 _ (by omega)]) <;> (congr 2; simp only [Bool.toNat_true, Bool.toNat_false]; omega)
    by_cases q2 : kd = 2
    · rw [if_pos (show nI kd = 2 by rw [q2]; rfl)]; exact main
    · rw [if_neg (show ¬ nI kd = 2 from mt (nI_eq (b := 2) (by omega) (by omega)).mp q2), if_pos (show nI kd = 3 by rw [show kd = 3 by omega]; rfl)]; exact main
  · rw [if_neg (show ¬ nI kd = 2 from mt (nI_eq (b := 2) (by omega) (by omega)).mp (by omega)), if_neg (show ¬ nI kd = 3 from mt (nI_eq (b := 3) (by omega) (by omega)).mp (by omega)), if_neg q]
    have hb : r + kd * 2 ^ 5 < 16384 := by omega
    cases io <;> cases so <;> simp only [if_neg t0, if_pos f0, oz, o3 _ hb] <;> (try rw [o4 _ (by omega)]) <;> (congr 2; simp only [Bool.toNat_true, Bool.toNat_false]; omega)
theorem look_or {r sc kd nu : Nat} {io so : Bool} (hr : r < 4) (hkd : kd < 4) (hnu : nu < 128) (hsc : sc < 8) : nI (lkA r kd nu io so) ||| nI (4 * sc) = nI (lookN r sc kd (if 2 ≤ kd then nu else 0) io so false) ∧ nI (lkA r kd nu io so) ||| 65536 ||| nI (4 * sc) = nI (lookN r sc kd (if 2 ≤ kd then nu else 0) io so true) := by
  have hi := b2n io; have hs := b2n so
  have hn : (if 2 ≤ kd then nu else 0) < 128 := by split <;> omega
  unfold lkA lookN
  generalize (if 2 ≤ kd then nu else 0) = n2 at hn ⊢
  constructor
  · rw [nI_or (by omega) (by omega), show r + 32 * kd + 128 * n2 + 16384 * io.toNat + 32768 * so.toNat = (kd + 4 * n2 + 512 * io.toNat + 1024 * so.toNat) * 32 + r by omega, or_sc hr hsc]
    congr 1; simp only [Bool.toNat_false]; omega
  · have e1 : nI (r + 32 * kd + 128 * n2 + 16384 * io.toNat + 32768 * so.toNat) ||| 65536 = nI (r + 32 * kd + 128 * n2 + 16384 * io.toNat + 32768 * so.toNat + 65536) := by
      have : nI (r + 32 * kd + 128 * n2 + 16384 * io.toNat + 32768 * so.toNat) ||| nI (1 * 2 ^ 16) = nI (r + 32 * kd + 128 * n2 + 16384 * io.toNat + 32768 * so.toNat + 1 * 2 ^ 16) := by rw [nI_or (by omega) (by omega), or_hi 16 (by omega)]
      exact this
    rw [e1, nI_or (by omega) (by omega), show r + 32 * kd + 128 * n2 + 16384 * io.toNat + 32768 * so.toNat + 65536 = (kd + 4 * n2 + 512 * io.toNat + 1024 * so.toNat + 2048) * 32 + r by omega, or_sc hr hsc]
    congr 1; simp only [Bool.toNat_true]; omega
theorem sh_addMark {N n u w h r W D lk : Nat} {i0 j0 : Int} {o : ob_Sheet} {op : ob_Page} {g : Nat → Int32} (hn : n < 4096) (hr : r < 4) (hc : fd_Sheet_count o = nI n) (hu : fd_Sheet_used o = nI u) (hop : fd_Page_orientation op = nI r) (hw : ex_Page_wide N op = some (nI w)) (hh : ex_Page_high N op = some (nI h)) :
    ∃ g', ex_Sheet_addMark N o g op (iI i0) (iI j0) (nI W) (nI D) (nI lk) = some (fs_Sheet_count o (nI (n + 1)), g') ∧ g' (6 * n) = iI (plX r w h i0 j0) ∧ g' (6 * n + 1) = iI (plY r w h i0 j0) ∧ g' (6 * n + 2) = nI W ∧ g' (6 * n + 3) = nI D ∧ g' (6 * n + 4) = nI u ∧ g' (6 * n + 5) = nI lk ∧ ∀ i, i < 6 * n → g' i = g i := by
  have e6 : nI n * 6 = nI (6 * n) := by have h := nI_mul n 6; rw [Nat.mul_comm] at h; exact h
  have a0 : nI (6 * n) + 0 = nI (6 * n) := nI_addL _ 0
  have n0 : ¬ nI (6 * n) < 0 := nI_pos (by omega)
  have n1 : nI (6 * n + 6) ≤ 24576 := nI_le (b := 24576) (by omega) (by omega)
  have i0' : dk_in (nI (6 * n)) 24576 := dk_in_nI (by omega) (by omega)
  have i1 : dk_in (nI (6 * n + 1)) 24576 := dk_in_nI (by omega) (by omega)
  have i2 : dk_in (nI (6 * n + 2)) 24576 := dk_in_nI (by omega) (by omega)
  have i3 : dk_in (nI (6 * n + 3)) 24576 := dk_in_nI (by omega) (by omega)
  have i4 : dk_in (nI (6 * n + 4)) 24576 := dk_in_nI (by omega) (by omega)
  have i5 : dk_in (nI (6 * n + 5)) 24576 := dk_in_nI (by omega) (by omega)
  have c0 : (nI (6 * n)).toNatClampNeg = 6 * n := nI_clamp (by omega)
  have c1 : (nI (6 * n + 1)).toNatClampNeg = 6 * n + 1 := nI_clamp (by omega)
  have c2 : (nI (6 * n + 2)).toNatClampNeg = 6 * n + 2 := nI_clamp (by omega)
  have c3 : (nI (6 * n + 3)).toNatClampNeg = 6 * n + 3 := nI_clamp (by omega)
  have c4 : (nI (6 * n + 4)).toNatClampNeg = 6 * n + 4 := nI_clamp (by omega)
  have c5 : (nI (6 * n + 5)).toNatClampNeg = 6 * n + 5 := nI_clamp (by omega)
  have eW : nI w - 1 = iI ((w : Int) - 1) := by rw [nI_iI, iI_lit, iI_sub]; rfl
  have eH : nI h - 1 = iI ((h : Int) - 1) := by rw [nI_iI, iI_lit, iI_sub]; rfl
  unfold ex_Sheet_addMark ex_Sheet_setPlace
  rw [hw, hh]
  simp only [hc, hu, hop, e6, a0, nI_addL, if_neg n0, if_pos n1, if_pos i0', if_pos i1, if_pos i2, if_pos i3, if_pos i4, if_pos i5, c0, c1, c2, c3, c4, c5, dk_let, Option.bind_some, eW, eH, iI_sub]
  have fin : ∀ x y : Int, x = plX r w h i0 j0 → y = plY r w h i0 j0 → ∃ g', some (fs_Sheet_count o (nI (n + 1)), upd (upd (upd (upd (upd (upd g (6 * n) (iI x)) (6 * n + 1) (iI y)) (6 * n + 2) (nI W)) (6 * n + 3) (nI D)) (6 * n + 4) (nI u)) (6 * n + 5) (nI lk)) = some (fs_Sheet_count o (nI (n + 1)), g') ∧ g' (6 * n) = iI (plX r w h i0 j0) ∧ g' (6 * n + 1) = iI (plY r w h i0 j0) ∧ g' (6 * n + 2) = nI W ∧ g' (6 * n + 3) = nI D ∧ g' (6 * n + 4) = nI u ∧ g' (6 * n + 5) = nI lk ∧ ∀ i, i < 6 * n → g' i = g i := by
    intro x y hx hy
    subst hx hy
    refine ⟨_, rfl, by simp [upd], by simp [upd], by simp [upd], by simp [upd], by simp [upd], by simp [upd], fun i hi => ?_⟩
    rw [pk_un (by omega), pk_un (by omega), pk_un (by omega), pk_un (by omega), pk_un (by omega), pk_un (by omega)]
  have hr4 : r = 0 ∨ r = 1 ∨ r = 2 ∨ r = 3 := by omega
  rcases hr4 with rfl | rfl | rfl | rfl
  · rw [if_pos (show nI 0 = 0 from rfl)]
    exact fin i0 j0 rfl rfl
  · rw [if_neg (show ¬ nI 1 = 0 by decide), if_pos (show nI 1 = 1 from rfl)]
    exact fin j0 _ rfl rfl
  · rw [if_neg (show ¬ nI 2 = 0 by decide), if_neg (show ¬ nI 2 = 1 by decide), if_pos (show nI 2 = 2 from rfl)]
    exact fin _ _ rfl rfl
  · rw [if_neg (show ¬ nI 3 = 0 by decide), if_neg (show ¬ nI 3 = 1 by decide), if_neg (show ¬ nI 3 = 2 by decide)]
    exact fin _ i0 rfl rfl
def wdN (k d : Nat) : Nat := acrN k * d / 7200
def hgN (k d : Nat) : Nat := dwnN k * d / 7200
def mkEnd (u : Nat) (z : mkT) : Prop := z.2.2.2.2.2.2.2.2.2.2.2 = false → z.2.2.2.2.1 + z.2.2.2.1 * ((z.2.2.1 + 7) / 8) ≤ u
/-- the inks of both sides -/
def ikR (o : ob_Sheet) (os : ob_mSheet) (kd nu : Nat) (io so : Bool) : Prop := fd_Sheet_ink o = nI kd ∧ fd_mSheet_ink os = nI kd ∧ kd < 4 ∧ (2 ≤ kd → fd_Sheet_inkNumber o = nI nu) ∧ fd_mSheet_value os = nI nu ∧ (kd = 2 → 1 ≤ nu ∧ nu ≤ 100) ∧ (kd = 3 → 0 < nu ∧ nu < 7) ∧ nu < 128 ∧ fd_Sheet_inkOpaque o = nI io.toNat ∧ fd_mSheet_inkOpaque os = nI io.toNat ∧ fd_Sheet_sourceOpaque o = nI so.toNat ∧ fd_mSheet_sourceOpaque os = nI so.toNat
/-- the marks of the class are the dots of the reference -/
def mdR (w h r sd nd n u : Nat) (os : ob_mSheet) (gmk gd : Nat → Int32) (b : Nat → Int64) (mk : Nat → mkT) : Prop := n ≤ 4096 ∧ u ≤ 65536 ∧ mksR gmk n mk ∧ (∀ j, j < n → mkEnd u (mk j)) ∧ by8 65536 gd ∧ shM os sd w h r nd ∧ (∀ x y, x < 64 * sd → sd * y + sd ≤ nd → wdots b (sd * y) x = if x < w ∧ y < h then pntD gmk gd mk n x y else false)
theorem pnt_congr {g g' gd gd' : Nat → Int32} {mk mk' : Nat → mkT} {u x y : Nat} : ∀ n, (∀ j, j < n → mk' j = mk j) → (∀ j, j < n → mkEnd u (mk j)) → (∀ j, j < n → 1 ≤ (mk j).2.2.2.2.2.2.1) → (∀ i, i < u → gd' i = gd i) → pntD g' gd' mk' n x y = pntD g gd mk n x y := by
  intro n
  induction n with
  | zero => intro _ _ _ _; rfl
  | succ n ih =>
    intro h1 h2 h3 h4
    have e1 := ih (fun j hj => h1 j (by omega)) (fun j hj => h2 j (by omega)) (fun j hj => h3 j (by omega)) h4
    show layM gd' (mk' n).1 (mk' n).2.1 (mk' n).2.2.1 (mk' n).2.2.2.1 (mk' n).2.2.2.2.1 (mk' n).2.2.2.2.2.1 (mk' n).2.2.2.2.2.2.1 (mk' n).2.2.2.2.2.2.2.1 (mk' n).2.2.2.2.2.2.2.2.1 (mk' n).2.2.2.2.2.2.2.2.2.1 (mk' n).2.2.2.2.2.2.2.2.2.2.1 (mk' n).2.2.2.2.2.2.2.2.2.2.2 (pntD g' gd' mk' n x y) x y = layM gd (mk n).1 (mk n).2.1 (mk n).2.2.1 (mk n).2.2.2.1 (mk n).2.2.2.2.1 (mk n).2.2.2.2.2.1 (mk n).2.2.2.2.2.2.1 (mk n).2.2.2.2.2.2.2.1 (mk n).2.2.2.2.2.2.2.2.1 (mk n).2.2.2.2.2.2.2.2.2.1 (mk n).2.2.2.2.2.2.2.2.2.2.1 (mk n).2.2.2.2.2.2.2.2.2.2.2 (pntD g gd mk n x y) x y
    rw [h1 n (by omega), e1]
    have hE := h2 n (by omega)
    have hS := h3 n (by omega)
    generalize mk n = z at hE hS
    obtain ⟨X, Y, W, D, B, r, sc, kd, nu, io, so, ab⟩ := z
    unfold mkEnd at hE
    simp only at hE hS ⊢
    unfold layM
    by_cases q : inM r X Y W D sc x y = true
    · rw [if_pos q, if_pos q]
      have hs : srcM gd' W B r sc X Y ab x y = srcM gd W B r sc X Y ab x y := by
        unfold srcM
        cases ab with
        | true => rfl
        | false =>
          simp only [Bool.false_or]
          have hE := hE rfl
          unfold inM at q
          have q := of_decide_eq_true q
          unfold bitM
          have hp : (pM r X Y x y).toNat / sc < W := Nat.div_lt_of_lt_mul (by have := q.2.1; have h0 := q.1; have hm : ((sc * W : Nat) : Int) = (sc : Int) * W := Int.natCast_mul _ _; omega)
          have hq : (qM r X Y x y).toNat / sc < D := Nat.div_lt_of_lt_mul (by have := q.2.2.2; have h0 := q.2.2.1; have hm : ((sc * D : Nat) : Int) = (sc : Int) * D := Int.natCast_mul _ _; omega)
          rw [h4]
          have h5 : ((qM r X Y x y).toNat / sc + 1) * ((W + 7) / 8) ≤ D * ((W + 7) / 8) := Nat.mul_le_mul_right _ hq
          rw [Nat.succ_mul] at h5
          omega
      rw [hs]
    · rw [if_neg q, if_neg q]
/-- a mark more on both sides -/
theorem md_add {w h r sd nd n u by_ W D sc kd nu lk : Nat} {i0 j0 : Int} {io so ab : Bool} {os os' : ob_mSheet} {gmk gmk' gd gd' : Nat → Int32} {b b' : Nat → Int64} {mk : Nat → mkT} {srcF : Int → Int → Bool} (hM : mdR w h r sd nd n u os gmk gd b mk) (hn : n < 4096) (hu : u + by_ ≤ 65536) (hr : r < 4) (hos : shM os' sd w h r nd)
    (hg0 : gmk' (6 * n) = iI (plX r w h i0 j0)) (hg1 : gmk' (6 * n + 1) = iI (plY r w h i0 j0)) (hg2 : gmk' (6 * n + 2) = nI W) (hg3 : gmk' (6 * n + 3) = nI D) (hg4 : gmk' (6 * n + 4) = nI u) (hg5 : gmk' (6 * n + 5) = nI (lookN r sc kd (if 2 ≤ kd then nu else 0) io so ab)) (hgl : ∀ i, i < 6 * n → gmk' i = gmk i)
    (hgd : ∀ i, i < u → gd' i = gd i) (hg8 : by8 65536 gd') (hkd : kd < 4) (hnu : nu < 128) (hk3 : kd = 3 → nu < 7) (hsc : 1 ≤ sc ∧ sc < 8) (hW : W ≤ 40000) (hD : D ≤ 40000) (hsW : sc * W ≤ 40000) (hsD : sc * D ≤ 40000) (hab : ab = false → D * ((W + 7) / 8) ≤ by_) (hi0 : -1000000000 ≤ i0 ∧ i0 ≤ 1000000000) (hj0 : -1000000000 ≤ j0 ∧ j0 ≤ 1000000000)
    (hst : stR (fun x y => wdots b (sd * y) x) (fun x y => wdots b' (sd * y) x) sd r w h (fun i' j' => decide (i0 ≤ i' ∧ i' < i0 + (sc * W : Nat) ∧ j0 ≤ j' ∧ j' < j0 + (sc * D : Nat))) srcF kd nu so io)
    (hsrc : ∀ x y, x < w → y < h → inM r (plX r w h i0 j0) (plY r w h i0 j0) W D sc x y = true → srcF (iOf r w h x y) (jOf r w h x y) = srcM gd' W u r sc (plX r w h i0 j0) (plY r w h i0 j0) ab x y) :
    ∃ mk', mdR w h r sd nd (n + 1) (u + by_) os' gmk' gd' b' mk' := by
  obtain ⟨m1, m2, m3, m4, m5, m6, m7⟩ := hM
  have s9 := m6.2.2.2.2.2.2.2.2.1
  have s10 := m6.2.2.2.2.2.2.2.2.2
  have hn2 : (if 2 ≤ kd then nu else 0) < 128 := by split <;> omega
  have hn3 : kd = 3 → (if 2 ≤ kd then nu else 0) < 7 := by intro q; rw [if_pos (by omega)]; exact hk3 q
  have hplX : -1073741824 ≤ plX r w h i0 j0 ∧ plX r w h i0 j0 ≤ 1073741824 := by unfold plX; split <;> (try split) <;> (try split) <;> omega
  have hplY : -1073741824 ≤ plY r w h i0 j0 ∧ plY r w h i0 j0 ≤ 1073741824 := by unfold plY; split <;> (try split) <;> (try split) <;> omega
  obtain ⟨z, hz⟩ : ∃ z : mkT, z = (plX r w h i0 j0, plY r w h i0 j0, W, D, u, r, sc, kd, (if 2 ≤ kd then nu else 0), io, so, ab) := ⟨_, rfl⟩
  obtain ⟨mk', hk1, hk2⟩ : ∃ mk' : Nat → mkT, mk' n = z ∧ ∀ j, j ≠ n → mk' j = mk j := ⟨fun j => if j = n then z else mk j, if_pos rfl, fun j hj => if_neg hj⟩
  refine ⟨mk', by omega, hu, ?_, ?_, hg8, hos, ?_⟩
  · intro j hj
    by_cases q : j = n
    · subst q
      rw [hk1, hz]
      exact ⟨⟨hg0, hg1, hg2, hg3, hg4, hg5⟩, ⟨hplX, hplY, hW, hD, ⟨hr, hsc.1, hsc.2, hkd, hn2⟩, hn3, hsW, hsD, by show u ≤ 65536; omega, fun hq => by have := hab hq; show u + D * ((W + 7) / 8) ≤ 65536; omega⟩⟩
    · rw [hk2 j q]
      have hj2 := m3 j (by omega)
      obtain ⟨⟨a0, a1, a2, a3, a4, a5⟩, hb⟩ := hj2
      exact ⟨⟨by rw [hgl _ (by omega)]; exact a0, by rw [hgl _ (by omega)]; exact a1, by rw [hgl _ (by omega)]; exact a2, by rw [hgl _ (by omega)]; exact a3, by rw [hgl _ (by omega)]; exact a4, by rw [hgl _ (by omega)]; exact a5⟩, hb⟩
  · intro j hj
    by_cases q : j = n
    · rw [q, hk1, hz]; intro hq; have := hab hq; show u + D * ((W + 7) / 8) ≤ u + by_; omega
    · rw [hk2 j q]; intro hq; have := m4 j (by omega) hq; omega
  · intro x y hx hy
    have h1 := hst x y hx
    have h2 := m7 x y hx hy
    have h1' : wdots b' (sd * y) x = if (decide (x < w ∧ y < h) && decide (i0 ≤ iOf r w h x y ∧ iOf r w h x y < i0 + (sc * W : Nat) ∧ j0 ≤ jOf r w h x y ∧ jOf r w h x y < j0 + (sc * D : Nat))) = true then layB (wdots b (sd * y) x) (srcF (iOf r w h x y) (jOf r w h x y)) (inkB kd nu x y) so io else wdots b (sd * y) x := h1
    rw [h1']
    by_cases q0 : x < w ∧ y < h
    · rw [if_pos q0] at h2 ⊢
      rw [decide_eq_true q0, Bool.true_and]
      have hpc : pntD gmk' gd' mk' n x y = pntD gmk gd mk n x y := pnt_congr n (fun j hj => hk2 j (by omega)) m4 (fun j hj => (m3 j hj).2.2.2.2.2.1.2.1) hgd
      have hstep : pntD gmk' gd' mk' (n + 1) x y = layM gd' (plX r w h i0 j0) (plY r w h i0 j0) W D u r sc kd (if 2 ≤ kd then nu else 0) io so ab (pntD gmk gd mk n x y) x y := by
        have : pntD gmk' gd' mk' (n + 1) x y = layM gd' (mk' n).1 (mk' n).2.1 (mk' n).2.2.1 (mk' n).2.2.2.1 (mk' n).2.2.2.2.1 (mk' n).2.2.2.2.2.1 (mk' n).2.2.2.2.2.2.1 (mk' n).2.2.2.2.2.2.2.1 (mk' n).2.2.2.2.2.2.2.2.1 (mk' n).2.2.2.2.2.2.2.2.2.1 (mk' n).2.2.2.2.2.2.2.2.2.2.1 (mk' n).2.2.2.2.2.2.2.2.2.2.2 (pntD gmk' gd' mk' n x y) x y := rfl
        rw [this, hpc, hk1, hz]
      rw [hstep, h2]
      unfold layM
      have hpq := pl_pq (w := w) (h := h) (x := x) (y := y) (i0 := i0) (j0 := j0) hr
      have hmW : ((sc * W : Nat) : Int) = (sc : Int) * W := Int.natCast_mul _ _
      have hmD : ((sc * D : Nat) : Int) = (sc : Int) * D := Int.natCast_mul _ _
      have hiff : (i0 ≤ iOf r w h x y ∧ iOf r w h x y < i0 + (sc * W : Nat) ∧ j0 ≤ jOf r w h x y ∧ jOf r w h x y < j0 + (sc * D : Nat)) ↔ inM r (plX r w h i0 j0) (plY r w h i0 j0) W D sc x y = true := by
        unfold inM
        rw [decide_eq_true_iff, hpq.1, hpq.2]
        omega
      have hink : inkB kd (if 2 ≤ kd then nu else 0) x y = inkB kd nu x y := by
        by_cases q : 2 ≤ kd
        · rw [if_pos q]
        · rw [if_neg q]
          have : kd = 0 ∨ kd = 1 := by omega
          rcases this with rfl | rfl <;> rfl
      by_cases q : inM r (plX r w h i0 j0) (plY r w h i0 j0) W D sc x y = true
      · rw [if_pos q, decide_eq_true (hiff.mpr q), if_pos rfl, hink, hsrc x y q0.1 q0.2 q]
      · rw [if_neg q, decide_eq_false (mt hiff.mp q), if_neg (by decide)]
    · rw [if_neg q0] at h2 ⊢
      rw [decide_eq_false q0, Bool.false_and, if_neg (by decide)]
      exact h2
theorem pg_wide {N d k : Nat} {op : ob_Page} (hk : k < 5) (hd : d ≤ 300) (h1 : fd_Page_size op = nI k) (h2 : fd_Page_dpi op = nI d) : ex_Page_wide N op = some (nI (wdN k d)) ∧ ex_Page_high N op = some (nI (hgN k d)) := by
  have a1 := (acr_tab k hk).2; have a2 := (dwn_tab k hk).2
  have b1 : acrN k * d ≤ 79200 * 300 := Nat.mul_le_mul a1.2 hd
  have b2 : dwnN k * d ≤ 122400 * 300 := Nat.mul_le_mul a2.2 hd
  unfold ex_Page_wide ex_Page_high wdN hgN
  rw [sm_ofA hk h1, sm_ofD hk h1, h2]
  simp only [Option.bind_some, nI_mul]
  exact ⟨congrArg some (nI_div (b := 7200) (by omega) (by omega)), congrArg some (nI_div (b := 7200) (by omega) (by omega))⟩
theorem wd_le {k d : Nat} (hk : k < 5) (hd : d ≤ 300) : wdN k d ≤ 3300 ∧ hgN k d ≤ 5100 := by
  have a1 := (acr_tab k hk).2; have a2 := (dwn_tab k hk).2
  have b1 : acrN k * d ≤ 79200 * 300 := Nat.mul_le_mul a1.2 hd
  have b2 : dwnN k * d ≤ 122400 * 300 := Nat.mul_le_mul a2.2 hd
  unfold wdN hgN; omega
/-- dots an inch -/
def isDpi (d : Nat) : Prop := d = 75 ∨ d = 150 ∨ d = 300
def dotN (d a : Nat) : Nat := a * d / 7200
theorem dp_mul {d a : Nat} (hd : isDpi d) : a * (d / 75) / 96 = a * d / 7200 := by
  rcases hd with rfl | rfl | rfl <;> simp <;> omega
def offN (r : Nat) : Nat := if r % 2 = 0 then 1800 else 1440
theorem pg_dotA {N d r a : Nat} {op : ob_Page} (hd : d ≤ 300) (hr : r < 4) (ha : a ≤ 122400) (h1 : fd_Page_orientation op = nI r) (h2 : fd_Page_dpi op = nI d) : ex_Page_dotAcross N op (nI a) = some (nI (dotN d (a + offN r))) := by
  have b1 : (a + offN r) * d ≤ 124200 * 300 := Nat.mul_le_mul (by unfold offN; split <;> omega) hd
  unfold ex_Page_dotAcross
  rw [sm_onSide hr h1, h2]
  simp only [Option.bind_some]
  unfold dotN
  unfold offN at b1 ⊢
  rcases Nat.mod_two_eq_zero_or_one r with q | q
  · rw [if_pos q] at b1
    rw [q, if_pos (show nI 0 = 0 from rfl), if_pos rfl, nI_addL, nI_mul]
    exact congrArg some (nI_div (b := 7200) (by show (a + 1800) * d < 2 ^ 31; omega) (by omega))
  · rw [if_neg (by omega)] at b1
    rw [q, if_neg (show ¬ nI 1 = 0 by decide), if_neg (by omega), nI_addL, nI_mul]
    exact congrArg some (nI_div (b := 7200) (by show (a + 1440) * d < 2 ^ 31; omega) (by omega))
theorem pg_dotD {N d a : Nat} {op : ob_Page} (hd : d ≤ 300) (ha : a ≤ 122400) (h2 : fd_Page_dpi op = nI d) : ex_Page_dotDown N op (nI a) = some (nI (dotN d a)) := by
  have b1 : a * d ≤ 122400 * 300 := Nat.mul_le_mul ha hd
  unfold ex_Page_dotDown dotN
  rw [h2, nI_mul]
  exact congrArg some (nI_div (b := 7200) (by omega) (by omega))
theorem rf_dotX {N d r a : Nat} {or : ob_Ref} {od : ob_mDesk} (hd : isDpi d) (hr : r < 4) (ha : a ≤ 122400) (h1 : fd_mDesk_orientation od = nI r) (h2 : fd_Ref_dpi or = nI d) : ex_Ref_dotX N or od (nI a) = some (nI (dotN d (a + offN r))) := by
  have hd3 : d ≤ 300 := by rcases hd with rfl | rfl | rfl <;> omega
  have e : nI r - nI r / 2 * 2 = nI (r % 2) := nI_mod (b := 2) (by omega) (by omega)
  have e2 : nI d / 75 = nI (d / 75) := nI_div (b := 75) (by omega) (by omega)
  unfold ex_Ref_dotX dotN
  rw [h1, h2, e, e2]
  have b1 : (a + offN r) * (d / 75) ≤ 124200 * 4 := Nat.mul_le_mul (by unfold offN; split <;> omega) (by omega)
  unfold offN at b1 ⊢
  rcases Nat.mod_two_eq_zero_or_one r with q | q
  · rw [if_pos q] at b1
    rw [q, if_pos (show nI 0 = 0 from rfl), if_pos rfl, nI_addL, nI_mul, ← dp_mul hd]
    exact congrArg some (nI_div (b := 96) (by show (a + 1800) * (d / 75) < 2 ^ 31; omega) (by omega))
  · rw [if_neg (by omega)] at b1
    rw [q, if_neg (show ¬ nI 1 = 0 by decide), if_neg (by omega), nI_addL, nI_mul, ← dp_mul hd]
    exact congrArg some (nI_div (b := 96) (by show (a + 1440) * (d / 75) < 2 ^ 31; omega) (by omega))
theorem rf_dotY {N d a : Nat} {or : ob_Ref} (hd : isDpi d) (ha : a ≤ 122400) (h2 : fd_Ref_dpi or = nI d) : ex_Ref_dotY N or (nI a) = some (nI (dotN d a)) := by
  have hd3 : d ≤ 300 := by rcases hd with rfl | rfl | rfl <;> omega
  have e2 : nI d / 75 = nI (d / 75) := nI_div (b := 75) (by omega) (by omega)
  have b1 : a * (d / 75) ≤ 122400 * 4 := Nat.mul_le_mul ha (by omega)
  unfold ex_Ref_dotY dotN
  rw [h2, e2, nI_mul, ← dp_mul hd]
  exact congrArg some (nI_div (b := 96) (by omega) (by omega))
theorem dot_le {d a : Nat} (hd : d ≤ 300) (ha : a ≤ 124200) : dotN d a ≤ 5175 := by
  have b1 : a * d ≤ 124200 * 300 := Nat.mul_le_mul ha hd
  unfold dotN; omega
/-- room for a mark on both sides -/
theorem sh_room {N n u by_ : Nat} {o : ob_Sheet} {os : ob_mSheet} (hn : n ≤ 4096) (hu : u ≤ 65536) (hb : by_ ≤ 65536) (h1 : fd_Sheet_count o = nI n) (h2 : fd_Sheet_used o = nI u) (h3 : fd_mSheet_marks os = nI n) (h4 : fd_mSheet_bytes os = nI u) :
    ex_Sheet_hasRoom N o (nI by_) = some (if n < 4096 ∧ u + by_ ≤ 65536 then (o, 1) else (fs_Sheet_overrun o 1, 0)) ∧ ex_mSheet_take N os (nI by_) = some (if n < 4096 ∧ u + by_ ≤ 65536 then (fs_mSheet_bytes (fs_mSheet_marks os (nI (n + 1))) (nI (u + by_)), 1) else (fs_mSheet_overrun os 1, 0)) := by
  unfold ex_Sheet_hasRoom ex_mSheet_take
  rw [h1, h2, h3, h4, nI_add, nI_1]
  by_cases q : n < 4096
  · rw [if_neg (show ¬ (4096 : Int32) ≤ nI n from nI_ge (b := 4096) q (by omega)), if_neg (show ¬ nI n = 4096 from mt (nI_eq (b := 4096) (by omega) (by omega)).mp (by omega))]
    by_cases q2 : u + by_ ≤ 65536
    · rw [if_pos (show nI (u + by_) ≤ 65536 from nI_le (b := 65536) q2 (by omega)), if_pos (show nI (u + by_) ≤ 65536 from nI_le (b := 65536) q2 (by omega)), if_pos ⟨q, q2⟩, if_pos ⟨q, q2⟩]; exact ⟨rfl, rfl⟩
    · rw [if_neg (show ¬ nI (u + by_) ≤ 65536 from nI_ge (a := 65536) (by omega) (by omega)), if_neg (show ¬ nI (u + by_) ≤ 65536 from nI_ge (a := 65536) (by omega) (by omega)), if_neg (fun h => q2 h.2), if_neg (fun h => q2 h.2)]; exact ⟨rfl, rfl⟩
  · rw [if_pos (show (4096 : Int32) ≤ nI n from nI_le (a := 4096) (by omega) (by omega)), if_pos (show nI n = 4096 by rw [show n = 4096 by omega]; rfl), if_neg (fun h => q h.1), if_neg (fun h => q h.1)]; exact ⟨rfl, rfl⟩
/-- the sheets of both sides, but for rules and what is due -/
def shR (k r d : Nat) (o : ob_Sheet) (os : ob_mSheet) (gmk gd : Nat → Int32) (b : Nat → Int64) (sd nd : Nat) : Prop :=
  ∃ (n u kd nu : Nat) (io so : Bool) (mk : Nat → mkT), fd_Sheet_count o = nI n ∧ fd_Sheet_used o = nI u ∧ fd_mSheet_marks os = nI n ∧ fd_mSheet_bytes os = nI u ∧ fd_Sheet_overrun o = fd_mSheet_overrun os ∧ (fd_Sheet_overrun o = 0 ∨ fd_Sheet_overrun o = 1) ∧ ikR o os kd nu io so ∧ mdR (wdN k d) (hgN k d) r sd nd n u os gmk gd b mk
/-- what laying a mark leaves of the class's sheet -/
def shF (o o' : ob_Sheet) : Prop := fd_Sheet_bandLines o' = fd_Sheet_bandLines o ∧ fd_Sheet_ruleWidth o' = fd_Sheet_ruleWidth o ∧ fd_Sheet_ruleHeight o' = fd_Sheet_ruleHeight o ∧ fd_Sheet_pattern o' = fd_Sheet_pattern o
theorem sh_bytes {N u m from_ by_ : Nat} {o : ob_Sheet} {gs gd : Nat → Int32} (hu : fd_Sheet_used o = nI u) (hub : u + by_ ≤ 65536) (hf : from_ + by_ ≤ m) (hm : m < 2 ^ 30) (h8 : by8 m gs) (hd8 : by8 65536 gd) : ex_Sheet_addBytes N o m gs gd (nI from_) (nI by_) = some (fs_Sheet_used o (nI (u + by_)), va_cpy gs gd from_ u by_) ∧ by8 65536 (va_cpy gs gd from_ u by_) := by
  have hcp : dk_cp (nI from_) (nI u) (nI by_) m 65536 = True := dk_cpT hf hub (by omega) (by omega)
  have hft : dk_fit .byte gs from_ by_ := by8_fit h8 hf
  refine ⟨?_, by8_cpy h8 hd8 hf⟩
  unfold ex_Sheet_addBytes
  rw [hu, nI_add, nI_add, if_neg (nI_pos (by omega)), if_neg (nI_pos (by omega)), if_neg (nI_nlt hf (by omega)), if_neg (show ¬ (65536 : Int32) < nI (u + by_) from nI_nlt (a := 65536) hub (by omega)), if_pos (of_eq_true hcp), nI_clamp (by omega), nI_clamp (by omega), nI_clamp (by omega), if_pos hft]
theorem ly_row {N k r d sd nd X Y sc rw_ W L dt : Nat} {o : ob_Sheet} {os : ob_mSheet} {op : ob_Page} {od : ob_mDesk} {oR : ob_Raster} {or : ob_Ref} {gmk gd g gm : Nat → Int32} {b : Nat → Int64} (hN : 2 ^ 22 < N) (hk : k < 5) (hr : r < 4) (hd : isDpi d) (h : shR k r d o os gmk gd b sd nd) (p1 : fd_Page_size op = nI k) (p2 : fd_Page_orientation op = nI r) (p3 : fd_Page_dpi op = nI d) (q1 : fd_mDesk_orientation od = nI r) (q2 : fd_Ref_dpi or = nI d)
    (r1 : fd_Raster_x oR = nI X) (r2 : fd_Raster_y oR = nI Y) (r3 : fd_Raster_scale oR = nI sc) (r4 : fd_Raster_row oR = nI rw_) (s1 : fd_Ref_rasterX or = nI X) (s2 : fd_Ref_rasterY or = nI Y) (s3 : fd_Ref_scale or = nI sc) (s4 : fd_Ref_row or = nI rw_) (s5 : fd_Ref_rasterWidth or = nI W) (hX : X ≤ 122400) (hY : Y ≤ 122400) (hsc : 1 ≤ sc ∧ sc ≤ 4) (hrw : rw_ ≤ 2 ^ 27) (hW : W ≤ 5119) (hL : L = if W = 0 then 640 else (W + 7) / 8) (hsd : sdR g gm) (hdt : dt = lastB (rbB g W) (8 * L)) (hdt0 : 0 < dt) :
    ∃ o' gmk' gd' os' b', ex_Sheet_layRow N o oR op gmk g gd (nI dt) = some (o', gmk', gd') ∧ ex_Ref_paintRow N or os od gm nd b (nI dt) = some (os', b') ∧ shR k r d o' os' gmk' gd' b' sd nd ∧ fd_Sheet_due o' = 1 ∧ shF o o' := by
  obtain ⟨n, u, kd, nu, io, so, mk, c1, c2, c3, c4, c5, c6, hik, hmd⟩ := h
  obtain ⟨i1, i2, i3, i4, i5, i6, i7, i8, i9, i10, i11, i12⟩ := hik
  have hmd' := hmd
  obtain ⟨m1, m2, m3, m4, m5, m6, m7⟩ := hmd'
  have hd3 : d ≤ 300 := by rcases hd with rfl | rfl | rfl <;> omega
  have hL6 : L ≤ 640 := by rw [hL]; split <;> omega
  have hdl : dt ≤ 8 * L := by rw [hdt]; exact lastB_le _ _
  have e8 : (nI dt + 7) / 8 = nI ((dt + 7) / 8) := by rw [nI_addL]; exact nI_div (b := 8) (by omega) (by omega)
  obtain ⟨hw1, hw2⟩ := pg_wide (N := N) hk hd3 p1 p3
  obtain ⟨o1, ho1⟩ : ∃ o1, o1 = fs_Sheet_due o 1 := ⟨_, rfl⟩
  have a1 : fd_Sheet_count o1 = nI n := by rw [ho1]; exact c1
  have a2 : fd_Sheet_used o1 = nI u := by rw [ho1]; exact c2
  have a3 : fd_Sheet_ink o1 = nI kd := by rw [ho1]; exact i1
  have a4 : 2 ≤ kd → fd_Sheet_inkNumber o1 = nI nu := by intro q; rw [ho1]; exact i4 q
  have a5 : fd_Sheet_inkOpaque o1 = nI io.toNat := by rw [ho1]; exact i9
  have a6 : fd_Sheet_sourceOpaque o1 = nI so.toNat := by rw [ho1]; exact i11
  have a7 : fd_Sheet_overrun o1 = fd_Sheet_overrun o := by rw [ho1]
  have a8 : fd_Sheet_due o1 = 1 := by rw [ho1]
  have a9 : shF o o1 := by rw [ho1]; exact ⟨rfl, rfl, rfl, rfl⟩
  obtain ⟨hr1, hr2⟩ := sh_room (N := N) (by_ := (dt + 7) / 8) (o := o1) (os := os) m1 m2 (by omega) a1 a2 c3 c4
  unfold ex_Sheet_layRow ex_Ref_paintRow
  rw [e8, ← ho1, hr1, hr2]
  simp only [Option.bind_some]
  by_cases q : n < 4096 ∧ u + (dt + 7) / 8 ≤ 65536
  · rw [if_pos q, if_pos q]
    simp only [show ¬ ((1 : Int32) = 0) by decide, if_false]
    have hx5 := dot_le (d := d) (a := X + offN r) hd3 (by unfold offN; split <;> omega)
    have hy5 := dot_le (d := d) (a := Y) hd3 (by omega)
    have hsr : sc * rw_ ≤ 4 * 2 ^ 27 := Nat.mul_le_mul hsc.2 hrw
    rw [r1, r2, r3, r4, s1, s2, pg_dotA hd3 hr hX p2 p3, pg_dotD hd3 hY p3, rf_dotX hd hr hX q1 q2, rf_dotY hd hY q2]
    simp only [Option.bind_some]
    rw [a3, a5, sh_inkLook (nu := nu) hr i3 i8 p2 a6 a4]
    simp only [Option.bind_some]
    have e2 : nI sc <<< ((2 : Int32) &&& 31) = nI (4 * sc) := (nI_shl (k := 2) (by omega) (by omega)).trans (by congr 1; omega)
    rw [e2, (look_or (io := io) (so := so) hr i3 i8 (show sc < 8 by omega)).1]
    obtain ⟨gmk', g1, g2, g3, g4, g5, g6, g7, g8⟩ := sh_addMark (N := N) (W := dt) (D := 1) (lk := lookN r sc kd (if 2 ≤ kd then nu else 0) io so false) (i0 := ((dotN d (X + offN r) : Nat) : Int)) (j0 := ((dotN d Y + sc * rw_ : Nat) : Int)) (g := gmk) q.1 hr a1 a2 p2 hw1 hw2
    have g1' : ex_Sheet_addMark N o1 gmk op (nI (dotN d (X + offN r))) (nI (dotN d Y) + nI sc * nI rw_) (nI dt) 1 (nI (lookN r sc kd (if 2 ≤ kd then nu else 0) io so false)) = some (fs_Sheet_count o1 (nI (n + 1)), gmk') := by rw [nI_mul, nI_add]; exact g1
    rw [g1']
    simp only [Option.bind_some]
    obtain ⟨o2, ho2⟩ : ∃ o2, o2 = fs_Sheet_count o1 (nI (n + 1)) := ⟨_, rfl⟩
    obtain ⟨t1, t2⟩ := sh_bytes (N := N) (o := o2) (u := u) (m := 640) (from_ := 0) (by_ := (dt + 7) / 8) (gs := g) (gd := gd) (by rw [ho2]; exact a2) q.2 (by omega) (by omega) (fun i hi => (hsd i hi).1) m5
    have t1' : ex_Sheet_addBytes N o2 640 g gd 0 (nI ((dt + 7) / 8)) = some (fs_Sheet_used o2 (nI (u + (dt + 7) / 8)), va_cpy g gd 0 u ((dt + 7) / 8)) := t1
    rw [← ho2, t1']
    obtain ⟨os1, hos1⟩ : ∃ os1, os1 = fs_mSheet_bytes (fs_mSheet_marks os (nI (n + 1))) (nI (u + (dt + 7) / 8)) := ⟨_, rfl⟩
    have hos : shM os1 sd (wdN k d) (hgN k d) r nd := by rw [hos1]; exact m6
    rw [← hos1]
    obtain ⟨b', l1, l2⟩ := rw_out (N := N) (ok := 1) (os := os1) (or := or) (g := g) (gm := gm) (dt := dt) (D := fun x y => wdots b (sd * y) x) (i0 := ((dotN d (X + offN r) : Nat) : Int)) (j0 := ((dotN d Y + sc * rw_ : Nat) : Int)) (ux := nI (dotN d (X + offN r))) (uy := nI (dotN d Y)) (kd := kd) (nu := nu) (so := so) (io := io) (by omega) hos (by rw [hos1]; exact i12) (by rw [hos1]; exact i10) (by rw [hos1]; exact i2) (by rw [hos1]; exact i5) i3 i8 i7 s3 hsc s4 s5 hW (by omega) hsd rfl (by rw [nI_mul, nI_add]; rfl) (by omega) (by omega) dt N 0 b rfl (by omega) (by omega) (st_0 _ (fun i j => decide_eq_false (by omega)))
    have l1' : lp_Ref_paintRow_49j9 N or gm nd (nI dt) (os1, 1) (nI (dotN d (X + offN r))) (nI (dotN d Y)) N 0 b = some b' := l1
    rw [l1']
    simp only [Option.bind_some]
    have hbl : W = 0 ∨ dt ≤ W := by
      by_cases w0 : W = 0
      · exact Or.inl w0
      · right
        have hb := lastB_black (rbB g W) (8 * L) (by omega)
        rw [← hdt] at hb
        unfold rbB at hb
        rw [decide_eq_false w0] at hb
        simp at hb
        omega
    obtain ⟨mk', hmk'⟩ := md_add (sc := sc) (W := dt) (D := 1) (by_ := (dt + 7) / 8) (kd := kd) (nu := nu) (io := io) (so := so) (ab := false) (lk := 0) (srcF := fun i' _ => rbB g W ((i' - ((dotN d (X + offN r) : Nat) : Int)).toNat / sc)) (gd' := va_cpy g gd 0 u ((dt + 7) / 8)) hmd q.1 q.2 hr hos g2 g3 g4 g5 g6 g7 g8 (fun i hi => by unfold va_cpy; rw [if_neg (by omega)]) t2 i3 i8 (fun hq => (i7 hq).2) ⟨hsc.1, by omega⟩ (by omega) (by omega) (by have : sc * dt ≤ 4 * 5120 := Nat.mul_le_mul hsc.2 (by omega); omega) (by omega) (fun _ => by omega) (by omega) (by omega) (st_ext l2 (fun x y _ _ => decide_eq_decide.mpr (by omega))) (fun x y hx hy hin => by
      have hpq := pl_pq (w := wdN k d) (h := hgN k d) (x := x) (y := y) (i0 := ((dotN d (X + offN r) : Nat) : Int)) (j0 := ((dotN d Y + sc * rw_ : Nat) : Int)) hr
      unfold inM at hin
      have hin := of_decide_eq_true hin
      unfold srcM bitM
      rw [hpq.1, hpq.2] at hin ⊢
      simp only [Bool.false_or]
      have hq0 : (jOf r (wdN k d) (hgN k d) x y - ((dotN d Y + sc * rw_ : Nat) : Int)).toNat / sc = 0 := Nat.div_eq_of_lt (by omega)
      have hkk : (iOf r (wdN k d) (hgN k d) x y - ((dotN d (X + offN r) : Nat) : Int)).toNat / sc < dt := Nat.div_lt_of_lt_mul (by have hm : ((sc * dt : Nat) : Int) = (sc : Int) * dt := Int.natCast_mul _ _; omega)
      rw [hq0]
      generalize (iOf r (wdN k d) (hgN k d) x y - ((dotN d (X + offN r) : Nat) : Int)).toNat / sc = kk at hkk ⊢
      have hva : va_cpy g gd 0 u ((dt + 7) / 8) (u + 0 * ((dt + 7) / 8) + kk / 8) = g (kk / 8) := by
        unfold va_cpy; rw [if_pos (by omega)]; congr 1; omega
      rw [hva]
      unfold rbB
      have : (decide (W = 0) || decide (kk < W)) = true := by
        rcases hbl with w0 | w0
        · rw [decide_eq_true w0]; rfl
        · rw [decide_eq_true (show kk < W by omega)]; simp
      rw [this, Bool.true_and])
    refine ⟨_, _, _, _, _, rfl, rfl, ⟨n + 1, u + (dt + 7) / 8, kd, nu, io, so, mk', ?_, ?_, ?_, ?_, ?_, ?_, ⟨?_, ?_, i3, ?_, ?_, i6, i7, i8, ?_, ?_, ?_, ?_⟩, hmk'⟩, ?_, ?_⟩
    all_goals first | (rw [hos1]; done) | skip
    · rw [ho2]
    · rfl
    · rw [ho2, hos1]; exact a7.trans c5
    · rw [ho2]; rw [← a7] at c6; exact c6
    · rw [ho2]; exact a3
    · rw [hos1]; exact i2
    · intro hq; rw [ho2]; exact a4 hq
    · rw [hos1]; exact i5
    · rw [ho2]; exact a5
    · rw [hos1]; exact i10
    · rw [ho2]; exact a6
    · rw [hos1]; exact i12
    · rw [ho2]; exact a8
    · rw [ho2]; exact a9
  · rw [if_neg q, if_neg q]
    simp only [if_true]
    refine ⟨_, _, _, _, _, rfl, rfl, ⟨n, u, kd, nu, io, so, mk, a1, a2, c3, c4, rfl, Or.inr rfl, ⟨a3, i2, i3, a4, i5, i6, i7, i8, a5, i10, a6, i12⟩, hmd⟩, a8, a9⟩
def dueO (o : ob_mDesk) : ob_mDesk := fs_mDesk_touched (fs_mDesk_thrown o 0) 1
theorem md_due {N : Nat} {o : ob_mDesk} : ex_mDesk_due N o = some (dueO o) := rfl
def rlN (d a : Nat) : Nat := (a * d + 7199) / 7200
/-- the rule's numbers on both sides -/
def ruR (o : ob_Sheet) (or : ob_Ref) (rw_ rh pt : Nat) : Prop := fd_Sheet_ruleWidth o = nI rw_ ∧ fd_Ref_ruleWide or = nI rw_ ∧ fd_Sheet_ruleHeight o = nI rh ∧ fd_Ref_ruleHigh or = nI rh ∧ fd_Sheet_pattern o = nI pt ∧ fd_Ref_pattern or = nI pt ∧ rw_ ≤ 786408 ∧ rh ≤ 786408 ∧ pt ≤ 32767
def isIk (n pt : Nat) : Bool := decide (n < 2) || (decide (n = 2) && decide (1 ≤ pt ∧ pt ≤ 100)) || (decide (n = 3) && decide (1 ≤ pt ∧ pt ≤ 6))
theorem sh_isInk {N n pt : Nat} (hn : n ≤ 32767) (hp : pt ≤ 32767) : ex_Sheet_isInk N (nI n) (nI pt) = some (nI (isIk n pt).toNat) := by
  unfold ex_Sheet_isInk isIk
  have c1 : nI pt < 1 ↔ pt < 1 := nI_ltI (b := 1) (by omega) (by omega)
  have c6 : (6 : Int32) < nI pt ↔ 6 < pt := nI_ltI (a := 6) (by omega) (by omega)
  have c100 : nI pt ≤ 100 ↔ pt ≤ 100 := nI_leI (b := 100) (by omega) (by omega)
  by_cases q0 : n = 0
  · subst q0; rw [if_pos (show nI 0 = 0 from rfl)]; rfl
  rw [if_neg (show ¬ nI n = 0 from nI_ne0 (by omega) (by omega))]
  by_cases q1 : n = 1
  · subst q1; rw [if_pos (show nI 1 = 1 from rfl)]; rfl
  rw [if_neg (show ¬ nI n = 1 from mt (nI_eq (b := 1) (by omega) (by omega)).mp q1), decide_eq_false (show ¬ n < 2 by omega)]
  by_cases q2 : n = 2
  · subst q2
    simp only [if_pos (show nI 2 = 2 from rfl), if_neg (show ¬ nI 2 = 3 by decide), decide_true, Bool.true_and, Bool.false_or, show decide (2 = 3) = false from rfl, Bool.false_and, Bool.or_false]
    by_cases a : pt < 1
    · rw [if_pos (c1.mpr a), decide_eq_false (by omega)]; rfl
    · rw [if_neg (mt c1.mp a)]
      by_cases b : pt ≤ 100
      · rw [if_pos (c100.mpr b), decide_eq_true (by omega)]; rfl
      · rw [if_neg (mt c100.mp b), decide_eq_false (by omega)]; rfl
  rw [if_neg (show ¬ nI n = 2 from mt (nI_eq (b := 2) (by omega) (by omega)).mp q2), decide_eq_false q2]
  by_cases q3 : n = 3
  · subst q3
    simp only [if_pos (show nI 3 = 3 from rfl), decide_true, Bool.true_and, Bool.false_or, Bool.false_and]
    by_cases a : pt < 1
    · rw [if_pos (c1.mpr a), decide_eq_false (by omega)]; rfl
    · rw [if_neg (mt c1.mp a)]
      by_cases b : 6 < pt
      · rw [if_pos (c6.mpr b), decide_eq_false (by omega)]; rfl
      · rw [if_neg (mt c6.mp b), decide_eq_true (by omega)]; rfl
  rw [if_neg (show ¬ nI n = 3 from mt (nI_eq (b := 3) (by omega) (by omega)).mp q3), decide_eq_false q3]; rfl
theorem rf_pat {N n pt : Nat} (hn : n = 2 ∨ n = 3) (hp : pt ≤ 32767) : ex_Ref_isPattern N (nI n) (nI pt) = some (nI (isIk n pt).toNat) := by
  unfold ex_Ref_isPattern isIk
  by_cases a : pt = 0
  · subst a
    rcases hn with rfl | rfl <;> rfl
  · rw [if_neg (show ¬ nI pt ≤ 0 from nI_nle (by omega) (by omega))]
    rcases hn with rfl | rfl
    · rw [if_pos (show nI 2 = 2 from rfl)]
      by_cases b : pt ≤ 100
      · rw [if_neg (show ¬ (100 : Int32) < nI pt from nI_nlt (a := 100) b (by omega)), decide_eq_true (show 1 ≤ pt ∧ pt ≤ 100 by omega)]; rfl
      · rw [if_pos (show (100 : Int32) < nI pt from nI_lt (a := 100) (by omega) (by omega)), decide_eq_false (show ¬ (1 ≤ pt ∧ pt ≤ 100) by omega)]; rfl
    · rw [if_neg (show ¬ nI 3 = 2 by decide)]
      by_cases b : pt ≤ 6
      · rw [if_neg (show ¬ (6 : Int32) < nI pt from nI_nlt (a := 6) b (by omega)), decide_eq_true (show 1 ≤ pt ∧ pt ≤ 6 by omega)]; rfl
      · rw [if_pos (show (6 : Int32) < nI pt from nI_lt (a := 6) (by omega) (by omega)), decide_eq_false (show ¬ (1 ≤ pt ∧ pt ≤ 6) by omega)]; rfl
theorem rl_dots {N d a : Nat} {o : ob_Sheet} {op : ob_Page} (hd : d ≤ 300) (ha : a ≤ 786408) (h : fd_Page_dpi op = nI d) : ex_Sheet_ruleDots N o op (nI a) = some (nI (rlN d a)) := by
  have b1 : a * d ≤ 786408 * 300 := Nat.mul_le_mul ha hd
  unfold ex_Sheet_ruleDots rlN
  have e1 : nI (a * d) + 7200 - 1 = nI (a * d + 7199) := by rw [nI_addL]; exact (nI_sub (b := 1) (by show 1 ≤ a * d + 7200; omega)).trans (by congr 1)
  rw [h, nI_mul, e1]
  exact congrArg some (nI_div (b := 7200) (by omega) (by omega))
theorem rl_ref {d a : Nat} (hd : d ≤ 300) (ha : a ≤ 786408) : ((nI a).toInt64 * (nI d).toInt64 + 7199) / 7200 = lI ((rlN d a : Nat) : Int) := by
  have b1 : a * d ≤ 786408 * 300 := Nat.mul_le_mul ha hd
  rw [nI_l (by omega), nI_l (by omega), lN_mul]
  have e : lN (a * d) + 7199 = lN (a * d + 7199) := lN_add (a * d) 7199
  rw [e]
  exact lN_div (b := 7200) (by omega) (by omega)
theorem rl_bound {d a : Nat} (hd : d ≤ 300) (ha : a ≤ 786408) : rlN d a ≤ 32768 := by
  have b1 : a * d ≤ 786408 * 300 := Nat.mul_le_mul ha hd
  unfold rlN; omega
theorem isInk_n2 {N kd : Nat} {x y : Int32} (hk : kd < 2) (a c : Int32) : ex_mSheet_isInk N (nI kd) a x y = ex_mSheet_isInk N (nI kd) c x y := by
  have : kd = 0 ∨ kd = 1 := by omega
  rcases this with rfl | rfl <;> rfl
theorem lay_n2 {N kd nd : Nat} {os : ob_mSheet} {b : Nat → Int64} {i j s io : Int32} (hk : kd < 2) (a c : Int32) : ex_mSheet_lay N os nd b i j s (nI kd) a io = ex_mSheet_lay N os nd b i j s (nI kd) c io := by
  unfold ex_mSheet_lay jn_mSheet_lay_50 jn_mSheet_lay_102c2
  simp only [isInk_n2 hk a c]
theorem rin_n2 {N kd nd : Nat} {v0 jc : Int32} {ux : rs_Ref_dotX} {y7 : Int64} {u : rs_mSheet_take} (hk : kd < 2) (a c : Int32) : ∀ (f : Nat) (p : Int32) (b : Nat → Int64), lp_Ref_rule_214m12 N nd v0 ux y7 u jc (nI kd) a f p b = lp_Ref_rule_214m12 N nd v0 ux y7 u jc (nI kd) c f p b := by
  intro f
  induction f with
  | zero => intro p b; rfl
  | succ f ih =>
    intro p b
    rw [lp_Ref_rule_214m12, lp_Ref_rule_214m12]
    unfold jn_Ref_rule_265o14 jn_Ref_rule_270n13
    simp only [lay_n2 hk a c, ih]
theorem rout_n2 {N kd nd : Nat} {v0 : Int32} {ux : rs_Ref_dotX} {uy : rs_Ref_dotY} {y7 y8 : Int64} {u : rs_mSheet_take} (hk : kd < 2) (a c : Int32) : ∀ (f : Nat) (p : Int32) (b : Nat → Int64), lp_Ref_rule_185l11 N nd v0 uy y8 u ux y7 (nI kd) a f p b = lp_Ref_rule_185l11 N nd v0 uy y8 u ux y7 (nI kd) c f p b := by
  intro f
  induction f with
  | zero => intro p b; rfl
  | succ f ih =>
    intro p b
    rw [lp_Ref_rule_185l11, lp_Ref_rule_185l11]
    simp only [rin_n2 hk a c, ih]
theorem rule_n2 {N kd nd : Nat} {or : ob_Ref} {od : ob_mDesk} {os : ob_mSheet} {gS : Nat → Int32} {b : Nat → Int64} {v : Int32} (hk : kd < 2) (a c : Int32) : jn_Ref_rule_68d3 N or od os gS nd b v (nI kd) a 1 = jn_Ref_rule_68d3 N or od os gS nd b v (nI kd) c 1 := by
  unfold jn_Ref_rule_68d3
  simp only [rout_n2 hk a c]
/-- the inner part of a rule, with its ink -/
theorem ly_rule1 {N k r d sd nd X Y n kd nu rw_ rh pt : Nat} {o : ob_Sheet} {os : ob_mSheet} {op : ob_Page} {od : ob_mDesk} {or : ob_Ref} {gmk gd gS : Nat → Int32} {b : Nat → Int64} {nn : Int32} (hN : 2 ^ 22 < N) (hk : k < 5) (hr : r < 4) (hd : isDpi d) (h : shR k r d o os gmk gd b sd nd) (hru : ruR o or rw_ rh pt) (p1 : fd_Page_size op = nI k) (p2 : fd_Page_orientation op = nI r) (p3 : fd_Page_dpi op = nI d) (p4 : fd_Page_x op = nI X) (p5 : fd_Page_y op = nI Y) (q1 : fd_mDesk_orientation od = nI r) (q2 : fd_Ref_dpi or = nI d) (g0 : gS 0 = nI X) (g1 : gS 1 = nI Y) (hX : X ≤ 122400) (hY : Y ≤ 122400) (hn : n ≤ 32767)
    (hkd : kd < 4) (hnu : nu < 128) (hk3 : kd = 3 → 0 < nu ∧ nu < 7) (hnn : 2 ≤ kd → nn = nI nu) (hw0 : 0 < rlN d rw_) (hh0 : 0 < rlN d rh) (io' : Bool) (hio' : nI io'.toNat = if nI n = 1 then 1 else fd_mSheet_inkOpaque os) :
    ∃ o' gmk' os' b', jn_Sheet_layRule_92e4 N o op gmk (nI kd) nn (nI (rlN d rw_)) (nI (rlN d rh)) (nI io'.toNat) = some (o', gmk') ∧ jn_Ref_rule_68d3 N or od os gS nd b (nI n) (nI kd) (nI nu) 1 = some (dueO od, os', b') ∧ shR k r d o' os' gmk' gd b' sd nd ∧ fd_Sheet_due o' = 1 ∧ shF o o' := by
  obtain ⟨n_, u, ikd, inu, io, so, mk, c1, c2, c3, c4, c5, c6, hik, hmd⟩ := h
  obtain ⟨i1, i2, i3, i4, i5, i6, i7, i8, i9, i10, i11, i12⟩ := hik
  have hmd' := hmd
  obtain ⟨m1, m2, m3, m4, m5, m6, m7⟩ := hmd'
  obtain ⟨u1, u2, u3, u4, u5, u6, u7, u8, u9⟩ := hru
  have hd3 : d ≤ 300 := by rcases hd with rfl | rfl | rfl <;> omega
  have hwb := rl_bound hd3 u7
  have hhb := rl_bound hd3 u8
  obtain ⟨hw1, hw2⟩ := pg_wide (N := N) hk hd3 p1 p3
  obtain ⟨o1, ho1⟩ : ∃ o1, o1 = fs_Sheet_due o 1 := ⟨_, rfl⟩
  have a1 : fd_Sheet_count o1 = nI n_ := by rw [ho1]; exact c1
  have a2 : fd_Sheet_used o1 = nI u := by rw [ho1]; exact c2
  have a3 : fd_Sheet_ink o1 = nI ikd := by rw [ho1]; exact i1
  have a4 : 2 ≤ ikd → fd_Sheet_inkNumber o1 = nI inu := by intro q; rw [ho1]; exact i4 q
  have a5 : fd_Sheet_inkOpaque o1 = nI io.toNat := by rw [ho1]; exact i9
  have a6 : fd_Sheet_sourceOpaque o1 = nI so.toNat := by rw [ho1]; exact i11
  have a7 : fd_Sheet_overrun o1 = fd_Sheet_overrun o := by rw [ho1]
  have a8 : fd_Sheet_due o1 = 1 := by rw [ho1]
  have a9 : shF o o1 := by rw [ho1]; exact ⟨rfl, rfl, rfl, rfl⟩
  have hrm := sh_room (N := N) (by_ := 0) (o := o1) (os := os) m1 m2 (by omega) a1 a2 c3 c4
  obtain ⟨hr1, hr2⟩ := hrm
  have hr1' : ex_Sheet_hasRoom N o1 0 = some (if n_ < 4096 ∧ u + 0 ≤ 65536 then (o1, 1) else (fs_Sheet_overrun o1 1, 0)) := hr1
  have hr2' : ex_mSheet_take N os 0 = some (if n_ < 4096 ∧ u + 0 ≤ 65536 then (fs_mSheet_bytes (fs_mSheet_marks os (nI (n_ + 1))) (nI (u + 0)), 1) else (fs_mSheet_overrun os 1, 0)) := hr2
  have hy7 := rl_ref (d := d) hd3 u7
  have hy8 := rl_ref (d := d) hd3 u8
  have z7 : ¬ lg_cmp (lI ((rlN d rw_ : Nat) : Int)) 0 = 0 := mt (lcmp_eq (b := 0) (by omega) (by omega)).mp (by omega)
  have z8 : ¬ lg_cmp (lI ((rlN d rh : Nat) : Int)) 0 = 0 := mt (lcmp_eq (b := 0) (by omega) (by omega)).mp (by omega)
  unfold jn_Sheet_layRule_92e4 jn_Ref_rule_68d3 jn_Sheet_layRule_155f5
  simp only [dk_let]
  rw [u2, u4, q2, if_neg (show ¬ (1 : Int32) = 0 by decide), hy7, hy8, if_neg z7, if_neg z8, md_due, ← ho1, sh_inkLook (nu := nu) hr hkd hnu p2 a6 hnn, hr1', hr2']
  simp only [Option.bind_some]
  by_cases q : n_ < 4096 ∧ u + 0 ≤ 65536
  · rw [if_pos q, if_pos q]
    simp only [show ¬ ((1 : Int32) = 0) by decide, if_false]
    have hx5 := dot_le (d := d) (a := X + offN r) hd3 (by unfold offN; split <;> omega)
    have hy5 := dot_le (d := d) (a := Y) hd3 (by omega)
    have q1' : fd_mDesk_orientation (dueO od) = nI r := q1
    rw [p4, p5, g0, g1, pg_dotA hd3 hr hX p2 p3, pg_dotD hd3 hY p3, rf_dotX hd hr hX q1' q2, rf_dotY hd hY q2]
    simp only [Option.bind_some]
    have hlo : nI (lkA r kd nu io' so) ||| 65536 ||| 4 = nI (lookN r 1 kd (if 2 ≤ kd then nu else 0) io' so true) := (look_or (io := io') (so := so) (sc := 1) hr hkd hnu (by omega)).2
    rw [hlo]
    obtain ⟨gmk', e1, e2, e3, e4, e5, e6, e7, e8⟩ := sh_addMark (N := N) (W := rlN d rw_) (D := rlN d rh) (lk := lookN r 1 kd (if 2 ≤ kd then nu else 0) io' so true) (i0 := ((dotN d (X + offN r) : Nat) : Int)) (j0 := ((dotN d Y : Nat) : Int)) (g := gmk) q.1 hr a1 a2 p2 hw1 hw2
    have e1' : ex_Sheet_addMark N o1 gmk op (nI (dotN d (X + offN r))) (nI (dotN d Y)) (nI (rlN d rw_)) (nI (rlN d rh)) (nI (lookN r 1 kd (if 2 ≤ kd then nu else 0) io' so true)) = some (fs_Sheet_count o1 (nI (n_ + 1)), gmk') := e1
    rw [e1']
    simp only [Option.bind_some]
    obtain ⟨os1, hos1⟩ : ∃ os1, os1 = fs_mSheet_bytes (fs_mSheet_marks os (nI (n_ + 1))) (nI (u + 0)) := ⟨_, rfl⟩
    have hos : shM os1 sd (wdN k d) (hgN k d) r nd := by rw [hos1]; exact m6
    rw [← hos1]
    have hwd := wd_le (d := d) hk hd3
    have hmx : (if r % 2 = 0 then hgN k d else wdN k d) ≤ 5100 := by split <;> omega
    obtain ⟨b', l1, l2⟩ := rr_out (N := N) (n := n) (ok := 1) (os := os1) (D := fun x y => wdots b (sd * y) x) (i0 := dotN d (X + offN r)) (j0 := dotN d Y) (wd := rlN d rw_) (hg := rlN d rh) (kd := kd) (nu := nu) (so := so) (io := io') (y7 := (nI rw_).toInt64 * (nI d).toInt64 + 7199) (y8 := (nI rh).toInt64 * (nI d).toInt64 + 7199) (by omega) hos (by rw [hos1]; exact i12) (by rw [hos1]; exact hio') (by rw [hos1]; show fd_mSheet_inkOpaque os = 0 ∨ fd_mSheet_inkOpaque os = 1; rw [i10]; cases io; exact Or.inl rfl; exact Or.inr rfl) hkd hnu hk3 (by omega) (by omega) hy7 (by omega) hy8 (by omega) ((if r % 2 = 0 then hgN k d else wdN k d) + 1 - dotN d Y) N (dotN d Y) b rfl (by omega) (Nat.le_refl _) (by omega) (st_0 _ (fun i j => decide_eq_false (by omega))) (by omega)
    rw [l1]
    simp only [Option.bind_some]
    obtain ⟨mk', hmk'⟩ := md_add (sc := 1) (W := rlN d rw_) (D := rlN d rh) (by_ := 0) (kd := kd) (nu := nu) (io := io') (so := so) (ab := true) (lk := 0) (srcF := fun _ _ => true) (gd' := gd) hmd q.1 q.2 hr hos e2 e3 e4 e5 e6 e7 e8 (fun i hi => rfl) m5 hkd hnu (fun hq => (hk3 hq).2) ⟨by omega, by omega⟩ (by omega) (by omega) (by omega) (by omega) (fun hq => absurd hq (by decide)) (by omega) (by omega) (st_ext l2 (fun x y _ _ => decide_eq_decide.mpr (by omega))) (fun x y hx hy hin => by unfold srcM; rfl)
    refine ⟨_, _, _, _, rfl, rfl, ⟨n_ + 1, u + 0, ikd, inu, io, so, mk', rfl, a2, ?_, ?_, ?_, ?_, ⟨a3, ?_, i3, a4, ?_, i6, i7, i8, a5, ?_, a6, ?_⟩, hmk'⟩, a8, a9⟩
    · rw [hos1]
    · rw [hos1]
    · rw [hos1]; exact a7.trans c5
    · rw [← a7] at c6; exact c6
    · rw [hos1]; exact i2
    · rw [hos1]; exact i5
    · rw [hos1]; exact i10
    · rw [hos1]; exact i12
  · rw [if_neg q, if_neg q]
    simp only [if_true]
    exact ⟨_, _, _, _, rfl, rfl, ⟨n_, u, ikd, inu, io, so, mk, a1, a2, c3, c4, rfl, Or.inr rfl, ⟨a3, i2, i3, a4, i5, i6, i7, i8, a5, i10, a6, i12⟩, hmd⟩, a8, a9⟩
theorem ly_rule {N k r d sd nd X Y n rw_ rh pt : Nat} {o : ob_Sheet} {os : ob_mSheet} {op : ob_Page} {od : ob_mDesk} {or : ob_Ref} {gmk gd gS : Nat → Int32} {b : Nat → Int64} (hN : 2 ^ 22 < N) (hk : k < 5) (hr : r < 4) (hd : isDpi d) (h : shR k r d o os gmk gd b sd nd) (hru : ruR o or rw_ rh pt) (p1 : fd_Page_size op = nI k) (p2 : fd_Page_orientation op = nI r) (p3 : fd_Page_dpi op = nI d) (p4 : fd_Page_x op = nI X) (p5 : fd_Page_y op = nI Y) (q1 : fd_mDesk_orientation od = nI r) (q2 : fd_Ref_dpi or = nI d) (g0 : gS 0 = nI X) (g1 : gS 1 = nI Y) (hX : X ≤ 122400) (hY : Y ≤ 122400) (hn : n ≤ 32767) :
    ∃ o' gmk' os' b' od', ex_Sheet_layRule N o op gmk (nI n) = some (o', gmk') ∧ ex_Ref_rule N or od os gS nd b (nI n) = some (od', os', b') ∧ shR k r d o' os' gmk' gd b' sd nd ∧ shF o o' ∧ ((od' = od ∧ fd_Sheet_due o' = fd_Sheet_due o) ∨ (od' = dueO od ∧ fd_Sheet_due o' = 1)) := by
  have h' := h
  obtain ⟨n_, u, ikd, inu, io, so, mk, c1, c2, c3, c4, c5, c6, hik, hmd⟩ := h'
  obtain ⟨i1, i2, i3, i4, i5, i6, i7, i8, i9, i10, i11, i12⟩ := hik
  have hru' := hru
  obtain ⟨u1, u2, u3, u4, u5, u6, u7, u8, u9⟩ := hru'
  have hd3 : d ≤ 300 := by rcases hd with rfl | rfl | rfl <;> omega
  have hwb := rl_bound hd3 u7
  have hhb := rl_bound hd3 u8
  have hy7 := rl_ref (d := d) hd3 u7
  have hy8 := rl_ref (d := d) hd3 u8
  have z7 : lg_cmp (lI ((rlN d rw_ : Nat) : Int)) 0 = 0 ↔ ((rlN d rw_ : Nat) : Int) = 0 := lcmp_eq (b := 0) (by omega) (by omega)
  have z8 : lg_cmp (lI ((rlN d rh : Nat) : Int)) 0 = 0 ↔ ((rlN d rh : Nat) : Int) = 0 := lcmp_eq (b := 0) (by omega) (by omega)
  -- nothing is laid
  have none_ : ∃ o' gmk' os' b' od', some (o, gmk) = some (o', gmk') ∧ some (od, os, b) = some (od', os', b') ∧ shR k r d o' os' gmk' gd b' sd nd ∧ shF o o' ∧ ((od' = od ∧ fd_Sheet_due o' = fd_Sheet_due o) ∨ (od' = dueO od ∧ fd_Sheet_due o' = 1)) := ⟨o, gmk, os, b, od, rfl, rfl, h, ⟨rfl, rfl, rfl, rfl⟩, Or.inl ⟨rfl, rfl⟩⟩
  have ref0 : ∀ (n2 : Int32) (s1 s2 : Int32), jn_Ref_rule_68d3 N or od os gS nd b n2 s1 s2 0 = some (od, os, b) := by
    intro n2 s1 s2; unfold jn_Ref_rule_68d3 jn_Ref_rule_131i8; simp only [dk_let, if_true]
  have refz : (rlN d rw_ = 0 ∨ rlN d rh = 0) → ∀ (n2 : Int32) (s1 s2 : Int32), jn_Ref_rule_68d3 N or od os gS nd b n2 s1 s2 1 = some (od, os, b) := by
    intro hz n2 s1 s2
    unfold jn_Ref_rule_68d3 jn_Ref_rule_131i8
    simp only [dk_let]
    rw [u2, u4, q2, if_neg (show ¬ (1 : Int32) = 0 by decide), hy7, hy8]
    by_cases a : rlN d rw_ = 0
    · rw [if_pos (z7.mpr (by omega))]
    · rw [if_neg (mt z7.mp (by omega)), if_pos (z8.mpr (by omega))]
  -- the class, by its kind
  have cls : ∀ (kk : Nat) (nn : Int32) (ik : Bool), ex_Sheet_isInk N (nI kk) nn = some (nI ik.toNat) → (0 < rlN d rw_ ∧ 0 < rlN d rh ∧ ik = true → ∀ io' : Bool, (nI io'.toNat = if nI n = 1 then 1 else fd_mSheet_inkOpaque os) → jn_Sheet_layRule_49c2 N o op gmk (nI n) (nI (rlN d rw_)) (nI (rlN d rh)) (nI kk) nn = jn_Sheet_layRule_92e4 N o op gmk (nI kk) nn (nI (rlN d rw_)) (nI (rlN d rh)) (nI io'.toNat)) ∧ (¬ (0 < rlN d rw_ ∧ 0 < rlN d rh ∧ ik = true) → jn_Sheet_layRule_49c2 N o op gmk (nI n) (nI (rlN d rw_)) (nI (rlN d rh)) (nI kk) nn = some (o, gmk)) := by
    intro kk nn ik hik
    unfold jn_Sheet_layRule_49c2 jn_Sheet_layRule_69d3 jn_Sheet_layRule_87g6
    rw [hik]
    simp only [Option.bind_some]
    constructor
    · intro hq io' hio'
      rw [if_neg (show ¬ nI (rlN d rw_) = 0 from nI_ne0 hq.1 (by omega)), if_neg (show ¬ nI (rlN d rh) = 0 from nI_ne0 hq.2.1 (by omega)), hq.2.2, if_neg (show ¬ nI (true).toNat = 0 by decide), i9]
      by_cases q : nI n = 1
      · rw [if_pos q] at hio'
        rw [if_pos q, hio', ite_self]
      · rw [if_neg q, i10] at hio'
        rw [if_neg q, hio']
        cases io with
        | false => rw [if_pos (show nI (false).toNat = 0 from rfl)]; rfl
        | true => rw [if_neg (show ¬ nI (true).toNat = 0 by decide)]; rfl
    · intro hq
      by_cases a : rlN d rw_ = 0
      · rw [if_pos (show nI (rlN d rw_) = 0 by rw [a]; rfl)]
      · rw [if_neg (show ¬ nI (rlN d rw_) = 0 from nI_ne0 (by omega) (by omega))]
        by_cases a2 : rlN d rh = 0
        · rw [if_pos (show nI (rlN d rh) = 0 by rw [a2]; rfl)]
        · rw [if_neg (show ¬ nI (rlN d rh) = 0 from nI_ne0 (by omega) (by omega))]
          have : ik = false := by
            cases ik with
            | false => rfl
            | true => exact absurd ⟨by omega, by omega, rfl⟩ hq
          rw [this, if_pos (show nI (false).toNat = 0 from rfl)]
  obtain ⟨io', hio'⟩ : ∃ io' : Bool, nI io'.toNat = if nI n = 1 then 1 else fd_mSheet_inkOpaque os := by
    by_cases q : nI n = 1
    · rw [if_pos q]; exact ⟨true, rfl⟩
    · rw [if_neg q]; exact ⟨io, i10.symm⟩
  have go : ∀ (kk nu : Nat) (nn : Int32) (ik : Bool), kk < 4 → nu < 128 → (kk = 3 → 0 < nu ∧ nu < 7) → (2 ≤ kk → nn = nI nu) → ex_Sheet_isInk N (nI kk) nn = some (nI ik.toNat) → ik = true → ∃ o' gmk' os' b' od', jn_Sheet_layRule_49c2 N o op gmk (nI n) (nI (rlN d rw_)) (nI (rlN d rh)) (nI kk) nn = some (o', gmk') ∧ jn_Ref_rule_68d3 N or od os gS nd b (nI n) (nI kk) (nI nu) 1 = some (od', os', b') ∧ shR k r d o' os' gmk' gd b' sd nd ∧ shF o o' ∧ ((od' = od ∧ fd_Sheet_due o' = fd_Sheet_due o) ∨ (od' = dueO od ∧ fd_Sheet_due o' = 1)) := by
    intro kk nu nn ik h4 hnu hk3 hnn hik ht
    obtain ⟨cl1, cl2⟩ := cls kk nn ik hik
    by_cases q : 0 < rlN d rw_ ∧ 0 < rlN d rh
    · rw [cl1 ⟨q.1, q.2, ht⟩ io' hio']
      obtain ⟨o', gmk', os', b', f1, f2, f3, f4, f5⟩ := ly_rule1 (N := N) (n := n) (kd := kk) (nu := nu) (nn := nn) (gS := gS) (gd := gd) hN hk hr hd h hru p1 p2 p3 p4 p5 q1 q2 g0 g1 hX hY hn h4 hnu hk3 hnn q.1 q.2 io' hio'
      exact ⟨o', gmk', os', b', dueO od, f1, f2, f3, f5, Or.inr ⟨rfl, f4⟩⟩
    · rw [cl2 (fun hh => q ⟨hh.1, hh.2.1⟩), refz (by omega)]
      exact none_
  unfold ex_Sheet_layRule ex_Ref_rule jn_Sheet_layRule_31 jn_Ref_rule_16 jn_Ref_rule_36c2 jn_Ref_rule_63p15 jn_Ref_rule_67q16
  rw [u1, u3, rl_dots hd3 u7 p3, rl_dots hd3 u8 p3]
  simp only [Option.bind_some]
  by_cases q5 : n = 5
  · subst q5
    simp only [if_pos (show nI 5 = 5 from rfl), if_neg (show ¬ nI 5 < 2 by decide)]
    rw [i1, i2, i5]
    have hik : ex_Sheet_isInk N (nI ikd) (fd_Sheet_inkNumber o) = some (nI (true).toNat) := by
      by_cases q2 : 2 ≤ ikd
      · rw [i4 q2, sh_isInk (by omega) (by omega)]
        have : isIk ikd inu = true := by
          unfold isIk
          by_cases z : ikd = 2
          · have := i6 z; rw [decide_eq_true z, decide_eq_true this]; simp
          · have z3 : ikd = 3 := by omega
            have := i7 z3; rw [decide_eq_true z3, decide_eq_true (show 1 ≤ inu ∧ inu ≤ 6 by omega)]; simp
        rw [this]
      · have : ikd = 0 ∨ ikd = 1 := by omega
        rcases this with rfl | rfl <;> rfl
    exact go ikd inu (fd_Sheet_inkNumber o) true i3 i8 i7 i4 hik rfl
  · have n5 : ¬ nI n = 5 := mt (nI_eq (b := 5) (by omega) (by omega)).mp q5
    simp only [if_neg n5]
    rw [u5, u6]
    have hik := sh_isInk (N := N) hn u9
    by_cases q2 : n < 2
    · rw [if_pos (show nI n < 2 from nI_lt (b := 2) q2 (by omega))]
      have ht : isIk n pt = true := by unfold isIk; rw [decide_eq_true q2]; rfl
      -- the number doesn't count
      obtain ⟨o', gmk', os', b', od', f1, f2, f3, f4, f5⟩ := go n 0 (nI pt) (isIk n pt) (by omega) (by omega) (fun hq => absurd hq (by omega)) (fun hq => absurd hq (by omega)) hik ht
      exact ⟨o', gmk', os', b', od', f1, (rule_n2 q2 _ _).trans f2, f3, f4, f5⟩
    · rw [if_neg (show ¬ nI n < 2 from nI_nlt (b := 2) (by omega) (by omega))]
      by_cases q4 : 4 ≤ n
      · rw [if_pos (show (4 : Int32) ≤ nI n from nI_le (a := 4) q4 (by omega)), ref0]
        have hf : isIk n pt = false := by unfold isIk; rw [decide_eq_false (show ¬ n < 2 by omega), decide_eq_false (show ¬ n = 2 by omega), decide_eq_false (show ¬ n = 3 by omega)]; rfl
        rw [(cls n (nI pt) (isIk n pt) hik).2 (fun hh => by rw [hf] at hh; exact absurd hh.2.2 (by decide))]
        exact none_
      · rw [if_neg (show ¬ (4 : Int32) ≤ nI n from nI_ge (b := 4) (by omega) (by omega)), rf_pat (by omega) u9]
        simp only [Option.bind_some]
        cases ht : isIk n pt with
        | false =>
          rw [if_pos (show nI (false).toNat = 0 from rfl), ref0]
          rw [(cls n (nI pt) (isIk n pt) hik).2 (fun hh => by rw [ht] at hh; exact absurd hh.2.2 (by decide))]
          exact none_
        | true =>
          rw [if_neg (show ¬ nI (true).toNat = 0 by decide)]
          have hb : pt ≤ 100 ∧ (n = 3 → 0 < pt ∧ pt < 7) := by
            unfold isIk at ht; rw [decide_eq_false q2] at ht; simp at ht; omega
          exact go n pt (nI pt) (isIk n pt) (by omega) (by omega) hb.2 (fun _ => rfl) hik ht
/-- a glyph of the class's shelf, its nine numbers but the first two -/
def gyC (gg : Nat → Int32) (c : Nat) (lf tp : Int) (W Dp st at_ : Nat) : Prop := gg (9 * c + 2) = iI lf ∧ gg (9 * c + 3) = iI tp ∧ gg (9 * c + 4) = nI W ∧ gg (9 * c + 5) = nI Dp ∧ gg (9 * c + 6) = nI st ∧ gg (9 * c + 7) = nI at_ ∧ gg (9 * c + 8) = nI (Dp * ((W + 7) / 8)) ∧ at_ + Dp * ((W + 7) / 8) ≤ 16384
/-- a glyph of the reference's shelf, its seven numbers but the first two -/
def gyM (gm : Nat → Int32) (e : Nat) (lf tp : Int) (W Dp st : Nat) : Prop := gm (7 * e + 2) = iI lf ∧ gm (7 * e + 3) = iI tp ∧ gm (7 * e + 4) = nI W ∧ gm (7 * e + 5) = nI Dp ∧ gm (7 * e + 6) = nI st
def gyB (lf tp : Int) (W Dp st : Nat) : Prop := -40000 ≤ lf ∧ lf ≤ 40000 ∧ -40000 ≤ tp ∧ tp ≤ 40000 ∧ W ≤ 128 ∧ Dp ≤ 128 ∧ st ≤ 32767
theorem fs_of {N c j : Nat} {o : ob_FontShelf} {gg : Nat → Int32} (hc : 9 * c + j < 2304) : ex_FontShelf_ofGlyph N o gg (nI c) (nI j) = some (gg (9 * c + j)) := by
  have e : nI c * 9 + nI j = nI (9 * c + j) := by have h := nI_mul c 9; rw [Nat.mul_comm] at h; rw [show nI c * 9 = nI (9 * c) from h, nI_add]
  unfold ex_FontShelf_ofGlyph
  rw [e, if_neg (nI_pos (by omega)), if_neg (show ¬ (2304 : Int32) ≤ nI (9 * c + j) from nI_ge (b := 2304) hc (by omega)), if_pos (dk_in_nI hc (by omega)), nI_clamp (by omega)]
theorem ly_glyph {N k r d sd nd X Y c e W Dp st at_ : Nat} {lf tp : Int} {o : ob_Sheet} {os : ob_mSheet} {op : ob_Page} {od : ob_mDesk} {of_ : ob_FontShelf} {osf : ob_mShelf} {or : ob_Ref} {gmk gd gg gdt gm gs : Nat → Int32} {b : Nat → Int64} (hN : 2 ^ 22 < N) (hk : k < 5) (hr : r < 4) (hd : isDpi d) (h : shR k r d o os gmk gd b sd nd) (p1 : fd_Page_size op = nI k) (p2 : fd_Page_orientation op = nI r) (p3 : fd_Page_dpi op = nI d) (p4 : fd_Page_x op = nI X) (p5 : fd_Page_y op = nI Y) (q1 : fd_mDesk_orientation od = nI r) (q2 : fd_Ref_dpi or = nI d) (q3 : fd_mDesk_cameX od = nI X) (q4 : fd_mDesk_cameY od = nI Y)
    (hX : X ≤ 122400) (hY : Y ≤ 122400) (hc : c < 256) (he : e < 257) (hgc : gyC gg c lf tp W Dp st at_) (hgm : gyM gm e lf tp W Dp st) (hgb : gyB lf tp W Dp st) (h8 : by8 16384 gdt) (hbl : ∀ p q, p < W → q < Dp → ex_mShelf_isBlack N osf gm gs (nI e) (nI p) (nI q) = some (nI (bitM gdt W at_ p q).toNat)) :
    ∃ o' gmk' gd' os' b', ex_Sheet_layGlyph N o of_ gg op gmk gdt gd (nI c) = some (o', gmk', gd') ∧ ex_Ref_paintGlyph N or osf gm os od gs nd b (nI e) = some (os', b') ∧ shR k r d o' os' gmk' gd' b' sd nd ∧ fd_Sheet_due o' = fd_Sheet_due o ∧ shF o o' := by
  have h0 := h
  obtain ⟨n, u, kd, nu, io, so, mk, c1, c2, c3, c4, c5, c6, hik, hmd⟩ := h
  obtain ⟨i1, i2, i3, i4, i5, i6, i7, i8, i9, i10, i11, i12⟩ := hik
  have hmd' := hmd
  obtain ⟨m1, m2, m3, m4, m5, m6, m7⟩ := hmd'
  obtain ⟨g2, g3, g4, g5, g6, g7, g8, g9⟩ := hgc
  obtain ⟨t2, t3, t4, t5, t6⟩ := hgm
  obtain ⟨b1, b2, b3, b4, b5, b6, b7⟩ := hgb
  have hd3 : d ≤ 300 := by rcases hd with rfl | rfl | rfl <;> omega
  obtain ⟨hw1, hw2⟩ := pg_wide (N := N) hk hd3 p1 p3
  have hby : Dp * ((W + 7) / 8) ≤ 128 * 16 := Nat.mul_le_mul b6 (by omega)
  obtain ⟨by_, hby_⟩ : ∃ by_, by_ = Dp * ((W + 7) / 8) := ⟨_, rfl⟩
  have o2 : ex_FontShelf_ofGlyph N of_ gg (nI c) 2 = some (gg (9 * c + 2)) := fs_of (j := 2) (by omega)
  have o3 : ex_FontShelf_ofGlyph N of_ gg (nI c) 3 = some (gg (9 * c + 3)) := fs_of (j := 3) (by omega)
  have o4 : ex_FontShelf_ofGlyph N of_ gg (nI c) 4 = some (gg (9 * c + 4)) := fs_of (j := 4) (by omega)
  have o5 : ex_FontShelf_ofGlyph N of_ gg (nI c) 5 = some (gg (9 * c + 5)) := fs_of (j := 5) (by omega)
  have o7 : ex_FontShelf_ofGlyph N of_ gg (nI c) 7 = some (gg (9 * c + 7)) := fs_of (j := 7) (by omega)
  have o8 : ex_FontShelf_ofGlyph N of_ gg (nI c) 8 = some (gg (9 * c + 8)) := fs_of (j := 8) (by omega)
  have l_ : ∀ j, j < 7 → dk_in (7 * nI e + nI j) 1799 ∧ (7 * nI e + nI j).toNatClampNeg = 7 * e + j := fun j hj => by rw [nI_Lmul, nI_add]; exact ⟨dk_in_nI (by omega) (by omega), nI_clamp (by omega)⟩
  have l2 : dk_in (7 * nI e + 2) 1799 := (l_ 2 (by omega)).1
  have l3 : dk_in (7 * nI e + 3) 1799 := (l_ 3 (by omega)).1
  have l4 : dk_in (7 * nI e + 4) 1799 := (l_ 4 (by omega)).1
  have l5 : dk_in (7 * nI e + 5) 1799 := (l_ 5 (by omega)).1
  have v4 : (7 * nI e + 4).toNatClampNeg = 7 * e + 4 := (l_ 4 (by omega)).2
  have v5 : (7 * nI e + 5).toNatClampNeg = 7 * e + 5 := (l_ 5 (by omega)).2
  have eb : nI Dp * ((nI W + 7) / 8) = nI by_ := by
    have : (nI W + 7) / 8 = nI ((W + 7) / 8) := by rw [nI_addL]; exact nI_div (b := 8) (by omega) (by omega)
    rw [this, nI_mul, hby_]
  rw [← hby_] at g8 g9 hby
  unfold ex_Sheet_layGlyph ex_Ref_paintGlyph
  simp only [if_pos l2, if_pos l3, if_pos l4, if_pos l5, if_pos (show (0 : Int32) ≤ nI e from nI_le (a := 0) (by omega) (by omega)), dk_let]
  rw [o4, o5, o8, v4, v5, t4, t5, eb]
  simp only [Option.bind_some]
  rw [g8]
  by_cases z : by_ = 0
  · rw [if_pos (show nI by_ = 0 by rw [z]; rfl), if_pos (show nI by_ = 0 by rw [z]; rfl)]
    exact ⟨_, _, _, _, _, rfl, rfl, h0, rfl, ⟨rfl, rfl, rfl, rfl⟩⟩
  rw [if_neg (show ¬ nI by_ = 0 from nI_ne0 (by omega) (by omega)), if_neg (show ¬ nI by_ = 0 from nI_ne0 (by omega) (by omega))]
  obtain ⟨hr1, hr2⟩ := sh_room (N := N) (by_ := by_) (o := o) (os := os) m1 m2 (by omega) c1 c2 c3 c4
  rw [hr1, hr2]
  simp only [Option.bind_some]
  by_cases q : n < 4096 ∧ u + by_ ≤ 65536
  · rw [if_pos q, if_pos q]
    simp only [show ¬ ((1 : Int32) = 0) by decide, if_false]
    have hx5 := dot_le (d := d) (a := X + offN r) hd3 (by unfold offN; split <;> omega)
    have hy5 := dot_le (d := d) (a := Y) hd3 (by omega)
    rw [p4, p5, q3, q4, pg_dotA hd3 hr hX p2 p3, pg_dotD hd3 hY p3, rf_dotX hd hr hX q1 q2, rf_dotY hd hY q2, o2, o3, o7]
    simp only [Option.bind_some]
    rw [i1, i9, sh_inkLook (nu := nu) hr i3 i8 p2 i11 i4]
    simp only [Option.bind_some]
    have hlo : nI (lkA r kd nu io so) ||| 4 = nI (lookN r 1 kd (if 2 ≤ kd then nu else 0) io so false) := (look_or (io := io) (so := so) (sc := 1) hr i3 i8 (by omega)).1
    rw [hlo, g2, g3, g4, g5, g7]
    obtain ⟨i0, hi0⟩ : ∃ i0 : Int, i0 = ((dotN d (X + offN r) : Nat) : Int) + lf := ⟨_, rfl⟩
    obtain ⟨j0, hj0⟩ : ∃ j0 : Int, j0 = ((dotN d Y : Nat) : Int) - tp := ⟨_, rfl⟩
    obtain ⟨gmk', a1, a2, a3, a4, a5, a6, a7, a8⟩ := sh_addMark (N := N) (W := W) (D := Dp) (lk := lookN r 1 kd (if 2 ≤ kd then nu else 0) io so false) (i0 := i0) (j0 := j0) (g := gmk) q.1 hr c1 c2 p2 hw1 hw2
    have ei : nI (dotN d (X + offN r)) + iI lf = iI i0 := by rw [nI_iI, iI_add, hi0]
    have ej : nI (dotN d Y) - iI tp = iI j0 := by rw [nI_iI, iI_sub, hj0]
    rw [ei, ej, a1]
    simp only [Option.bind_some]
    obtain ⟨o2, ho2⟩ : ∃ o2, o2 = fs_Sheet_count o (nI (n + 1)) := ⟨_, rfl⟩
    obtain ⟨s1, s2⟩ := sh_bytes (N := N) (o := o2) (u := u) (m := 16384) (from_ := at_) (by_ := by_) (gs := gdt) (gd := gd) (by rw [ho2]; exact c2) q.2 g9 (by omega) h8 m5
    rw [← ho2, s1]
    simp only [Option.bind_some]
    obtain ⟨os1, hos1⟩ : ∃ os1, os1 = fs_mSheet_bytes (fs_mSheet_marks os (nI (n + 1))) (nI (u + by_)) := ⟨_, rfl⟩
    have hos : shM os1 sd (wdN k d) (hgN k d) r nd := by rw [hos1]; exact m6
    rw [← hos1]
    obtain ⟨b', f1, f2⟩ := rg_out (N := N) (ok := 1) (os := os1) (osf := osf) (gs := gs) (gg := gm) (g := e) (W := W) (Dp := Dp) (D := fun x y => wdots b (sd * y) x) (srcF := fun i' j' => bitM gdt W at_ (i' - i0).toNat (j' - j0).toNat) (i0 := i0) (j0 := j0) (ux := nI (dotN d (X + offN r))) (uy := nI (dotN d Y)) (kd := kd) (nu := nu) (so := so) (io := io) (by omega) hos (by rw [hos1]; exact i12) (by rw [hos1]; exact i10) (by rw [hos1]; exact i2) (by rw [hos1]; exact i5) i3 i8 i7 (nI_clamp (by omega)) (by omega) t4 b5 t5 b6 (by rw [t2]; exact ei) (by rw [t3]; exact ej) (by omega) (by omega) (fun p q hp hq => by
      rw [hbl p q hp hq]
      have z1 : (i0 + (p : Int) - i0).toNat = p := by omega
      have z2 : (j0 + (q : Int) - j0).toNat = q := by omega
      show some (nI (bitM gdt W at_ p q).toNat) = some (nI (bitM gdt W at_ (i0 + (p : Int) - i0).toNat (j0 + (q : Int) - j0).toNat).toNat)
      rw [z1, z2]) Dp N 0 b rfl (by omega) (by omega) (st_0 _ (fun i j => decide_eq_false (by omega)))
    have f1' : lp_Ref_paintGlyph_123d3 N osf gm gs nd (nI e) (os1, 1) (nI (dotN d (X + offN r))) (nI (dotN d Y)) N 0 b = some b' := f1
    rw [f1']
    simp only [Option.bind_some]
    obtain ⟨mk', hmk'⟩ := md_add (sc := 1) (W := W) (D := Dp) (by_ := by_) (kd := kd) (nu := nu) (io := io) (so := so) (ab := false) (lk := 0) (srcF := fun i' j' => bitM gdt W at_ (i' - i0).toNat (j' - j0).toNat) (gd' := va_cpy gdt gd at_ u by_) hmd q.1 q.2 hr hos a2 a3 a4 a5 a6 a7 a8 (fun i hi => by unfold va_cpy; rw [if_neg (by omega)]) s2 i3 i8 (fun hq => (i7 hq).2) ⟨by omega, by omega⟩ (by omega) (by omega) (by omega) (by omega) (fun _ => by omega) (by omega) (by omega) (st_ext f2 (fun x y _ _ => decide_eq_decide.mpr (by omega))) (fun x y hx hy hin => by
      have hpq := pl_pq (w := wdN k d) (h := hgN k d) (x := x) (y := y) (i0 := i0) (j0 := j0) hr
      unfold inM at hin
      have hin := of_decide_eq_true hin
      unfold srcM
      rw [hpq.1, hpq.2] at hin ⊢
      simp only [Bool.false_or, Nat.div_one]
      have hp : (iOf r (wdN k d) (hgN k d) x y - i0).toNat < W := by omega
      have hq : (jOf r (wdN k d) (hgN k d) x y - j0).toNat < Dp := by omega
      generalize (iOf r (wdN k d) (hgN k d) x y - i0).toNat = pp at hp ⊢
      generalize (jOf r (wdN k d) (hgN k d) x y - j0).toNat = qq at hq ⊢
      unfold bitM
      have hb2 : qq * ((W + 7) / 8) + (W + 7) / 8 ≤ by_ := by
        have : (qq + 1) * ((W + 7) / 8) ≤ Dp * ((W + 7) / 8) := Nat.mul_le_mul_right _ hq
        rw [Nat.succ_mul] at this; omega
      have hva : va_cpy gdt gd at_ u by_ (u + qq * ((W + 7) / 8) + pp / 8) = gdt (at_ + qq * ((W + 7) / 8) + pp / 8) := by
        unfold va_cpy; rw [if_pos (by omega)]; congr 1; omega
      rw [hva])
    refine ⟨_, _, _, _, _, rfl, rfl, ⟨n + 1, u + by_, kd, nu, io, so, mk', ?_, ?_, ?_, ?_, ?_, ?_, ⟨?_, ?_, i3, ?_, ?_, i6, i7, i8, ?_, ?_, ?_, ?_⟩, hmk'⟩, ?_, ?_⟩
    all_goals first | (rw [hos1]; done) | skip
    · rw [ho2]
    · rfl
    · rw [ho2, hos1]; exact c5
    · rw [ho2]; exact c6
    · rw [ho2]; exact i1
    · rw [hos1]; exact i2
    · intro hq; rw [ho2]; exact i4 hq
    · rw [hos1]; exact i5
    · rw [ho2]; exact i9
    · rw [hos1]; exact i10
    · rw [ho2]; exact i11
    · rw [hos1]; exact i12
    · rw [ho2]
    · rw [ho2]; exact ⟨rfl, rfl, rfl, rfl⟩
  · rw [if_neg q, if_neg q]
    simp only [if_true]
    exact ⟨_, _, _, _, _, rfl, rfl, ⟨n, u, kd, nu, io, so, mk, c1, c2, c3, c4, rfl, Or.inr rfl, ⟨i1, i2, i3, i4, i5, i6, i7, i8, i9, i10, i11, i12⟩, hmd⟩, rfl, ⟨rfl, rfl, rfl, rfl⟩⟩
/-- a loop that writes each place of an array -/
theorem lp_each {M : Nat} (lp : Nat → Int32 → (Nat → Int32) → Option (Nat → Int32)) (v : Nat → Int32) (h : ∀ n k g, k ≤ M → lp (n + 1) (nI k) g = if M ≤ k then some g else lp n (nI (k + 1)) (upd g k (v k))) : ∀ (m fu k : Nat) (g : Nat → Int32), M - k = m → m < fu → k ≤ M → ∃ g', lp fu (nI k) g = some g' ∧ ∀ i, g' i = if k ≤ i ∧ i < M then v i else g i := by
  intro m
  induction m with
  | zero =>
    intro fu k g hm hf hk
    obtain ⟨fu, rfl⟩ : ∃ z, fu = z + 1 := ⟨fu - 1, by omega⟩
    exact ⟨g, by rw [h _ _ _ hk, if_pos (by omega)], fun i => by rw [if_neg (by omega)]⟩
  | succ m ih =>
    intro fu k g hm hf hk
    obtain ⟨fu, rfl⟩ : ∃ z, fu = z + 1 := ⟨fu - 1, by omega⟩
    obtain ⟨g', e1, e2⟩ := ih fu (k + 1) (upd g k (v k)) (by omega) (by omega) (by omega)
    refine ⟨g', by rw [h _ _ _ hk, if_neg (by omega)]; exact e1, fun i => ?_⟩
    rw [e2]
    by_cases q : k + 1 ≤ i ∧ i < M
    · rw [if_pos q, if_pos (by omega)]
    · rw [if_neg q]
      by_cases q2 : i = k
      · subst q2; rw [if_pos (by omega), show upd g i (v i) i = v i from if_pos rfl]
      · rw [if_neg (by omega), show upd g k (v k) i = g i from if_neg q2]
theorem rs_fill {N : Nat} (hN : 1000 < N) (g : Nat → Int32) : ∃ g', ex_JArrays_fill0 N 640 g 0 = some g' ∧ ∀ i, i < 640 → g' i = 0 := by
  obtain ⟨g', e1, e2⟩ := lp_each (M := 640) (lp_JArrays_fill0_5 640 0) (fun _ => 0) (fun n k g hk => by
    rw [lp_JArrays_fill0_5]
    by_cases q : 640 ≤ k
    · rw [if_pos q, if_pos (nI_le q (by omega))]
    · rw [if_neg q, if_neg (nI_ge (by omega) (by omega)), if_pos (dk_in_nI (by omega) (by omega)), nI_clamp (by omega), nI_1]; rfl) 640 N 0 g rfl (by omega) (by omega)
  have e1' : lp_JArrays_fill0_5 640 0 N 0 g = some g' := e1
  exact ⟨g', by unfold ex_JArrays_fill0; rw [e1']; rfl, fun i hi => by rw [e2, if_pos ⟨by omega, hi⟩]⟩
theorem rm_zero {N : Nat} (hN : 1000 < N) (g : Nat → Int32) : ∃ g', lp_Ref_openRaster_111 N 0 g = some g' ∧ ∀ i, i < 640 → g' i = 0 := by
  obtain ⟨g', e1, e2⟩ := lp_each (M := 640) lp_Ref_openRaster_111 (fun _ => 0) (fun n k g hk => by
    rw [lp_Ref_openRaster_111]
    by_cases q : 640 ≤ k
    · rw [if_pos q, if_pos (show (640 : Int32) ≤ nI k from nI_le (a := 640) q (by omega))]
    · rw [if_neg q, if_neg (show ¬ (640 : Int32) ≤ nI k from nI_ge (b := 640) (by omega) (by omega)), if_pos (dk_in_nI (by omega) (by omega)), nI_clamp (by omega), nI_1, dk_let]) 640 N 0 g rfl (by omega) (by omega)
  exact ⟨g', e1, fun i hi => by rw [e2, if_pos ⟨by omega, hi⟩]⟩
theorem rm_zero2 {N : Nat} (hN : 1000 < N) (g : Nat → Int32) : ∃ g', lp_Ref_raster_266q16 N 0 g = some g' ∧ ∀ i, i < 640 → g' i = 0 := by
  obtain ⟨g', e1, e2⟩ := lp_each (M := 640) lp_Ref_raster_266q16 (fun _ => 0) (fun n k g hk => by
    rw [lp_Ref_raster_266q16]
    by_cases q : 640 ≤ k
    · rw [if_pos q, if_pos (show (640 : Int32) ≤ nI k from nI_le (a := 640) q (by omega))]
    · rw [if_neg q, if_neg (show ¬ (640 : Int32) ≤ nI k from nI_ge (b := 640) (by omega) (by omega)), if_pos (dk_in_nI (by omega) (by omega)), nI_clamp (by omega), nI_1, dk_let]) 640 N 0 g rfl (by omega) (by omega)
  exact ⟨g', e1, fun i hi => by rw [e2, if_pos ⟨by omega, hi⟩]⟩
theorem rm_copy {N : Nat} (hN : 1000 < N) (u g : Nat → Int32) : ∃ g', lp_Ref_rowOf_113c2 u N 0 g = some g' ∧ ∀ i, i < 640 → g' i = u i := by
  obtain ⟨g', e1, e2⟩ := lp_each (M := 640) (lp_Ref_rowOf_113c2 u) u (fun n k g hk => by
    rw [lp_Ref_rowOf_113c2]
    by_cases q : 640 ≤ k
    · rw [if_pos q, if_pos (show (640 : Int32) ≤ nI k from nI_le (a := 640) q (by omega))]
    · rw [if_neg q, if_neg (show ¬ (640 : Int32) ≤ nI k from nI_ge (b := 640) (by omega) (by omega)), if_pos (dk_in_nI (by omega) (by omega)), if_pos (dk_in_nI (by omega) (by omega)), nI_clamp (by omega), nI_1, dk_let]) 640 N 0 g rfl (by omega) (by omega)
  exact ⟨g', e1, fun i hi => by rw [e2, if_pos ⟨by omega, hi⟩]⟩
theorem rc_e4 (u : Nat → Int32) : ∀ (f : Nat) (w : Int32) (g : Nat → Int32), lp_Ref_rowOf_113e4 u f w g = lp_Ref_rowOf_113c2 u f w g := by
  intro f; induction f with
  | zero => intro w g; rfl
  | succ f ih => intro w g; rw [lp_Ref_rowOf_113e4, lp_Ref_rowOf_113c2]; simp only [ih]
theorem rc_g6 (u : Nat → Int32) : ∀ (f : Nat) (w : Int32) (g : Nat → Int32), lp_Ref_rowOf_113g6 u f w g = lp_Ref_rowOf_113c2 u f w g := by
  intro f; induction f with
  | zero => intro w g; rfl
  | succ f ih => intro w g; rw [lp_Ref_rowOf_113g6, lp_Ref_rowOf_113c2]; simp only [ih]
theorem rc_j9 (u : Nat → Int32) : ∀ (f : Nat) (w : Int32) (g : Nat → Int32), lp_Ref_rowOf_113j9 u f w g = lp_Ref_rowOf_113c2 u f w g := by
  intro f; induction f with
  | zero => intro w g; rfl
  | succ f ih => intro w g; rw [lp_Ref_rowOf_113j9, lp_Ref_rowOf_113c2]; simp only [ih]
/-- the fresh row that the reference begins with: the seed by method 3, else nothing -/
theorem rm_fresh {N mt : Nat} {or : ob_Ref} (hN : 1000 < N) (hm : fd_Ref_method or = nI mt) (hmt : mt ≤ 3) (g gf : Nat → Int32) : ∃ g', lp_Ref_rowOf_2 or g N 0 gf = some g' ∧ ∀ i, i < 640 → g' i = if mt = 3 then g i else 0 := by
  obtain ⟨g', e1, e2⟩ := lp_each (M := 640) (lp_Ref_rowOf_2 or g) (fun i => if mt = 3 then g i else 0) (fun n k gf hk => by
    rw [lp_Ref_rowOf_2, hm]
    by_cases q : 640 ≤ k
    · rw [if_pos q, if_pos (show (640 : Int32) ≤ nI k from nI_le (a := 640) q (by omega))]
    · rw [if_neg q, if_neg (show ¬ (640 : Int32) ≤ nI k from nI_ge (b := 640) (by omega) (by omega)), nI_1]
      have hc : (nI k).toNatClampNeg = k := nI_clamp (by omega)
      by_cases q3 : mt = 3
      · rw [if_pos (show nI mt = 3 by rw [q3]; rfl), if_pos (dk_in_nI (by omega) (by omega)), if_pos (dk_in_nI (by omega) (by omega)), hc, dk_let, if_pos q3]
      · rw [if_neg (show ¬ nI mt = 3 from fun h => q3 ((nI_eq (b := 3) (by omega) (by omega)).mp h)), if_pos (dk_in_nI (by omega) (by omega)), hc, dk_let, if_neg q3]) 640 N 0 gf rfl (by omega) (by omega)
  exact ⟨g', e1, fun i hi => by rw [e2, if_pos ⟨by omega, hi⟩]⟩
/-- what a raster command leaves of the reference -/
def rfF (or or' : ob_Ref) : Prop := fd_Ref_thrown or' = fd_Ref_thrown or ∧ fd_Ref_dpi or' = fd_Ref_dpi or ∧ fd_Ref_onTape or' = fd_Ref_onTape or ∧ fd_Ref_fault or' = fd_Ref_fault or ∧ fd_Ref_jobs or' = fd_Ref_jobs or ∧ fd_Ref_had or' = fd_Ref_had or ∧ fd_Ref_comeTo or' = fd_Ref_comeTo or ∧ fd_Ref_macroId or' = fd_Ref_macroId or ∧ fd_Ref_overruns or' = fd_Ref_overruns or ∧ fd_Ref_pattern or' = fd_Ref_pattern or ∧ fd_Ref_ruleHigh or' = fd_Ref_ruleHigh or ∧ fd_Ref_ruleWide or' = fd_Ref_ruleWide or ∧ fd_Ref_viewLine or' = fd_Ref_viewLine or ∧ fd_Ref_viewPage or' = fd_Ref_viewPage or ∧ fd_Ref_xMany or' = fd_Ref_xMany or
theorem rfF_refl (or : ob_Ref) : rfF or or := ⟨rfl, rfl, rfl, rfl, rfl, rfl, rfl, rfl, rfl, rfl, rfl, rfl, rfl, rfl, rfl⟩
theorem rfF_trans {a b c : ob_Ref} (h : rfF a b) (h2 : rfF b c) : rfF a c := by
  obtain ⟨a1, a2, a3, a4, a5, a6, a7, a8, a9, a10, a11, a12, a13, a14, a15⟩ := h
  obtain ⟨b1, b2, b3, b4, b5, b6, b7, b8, b9, b10, b11, b12, b13, b14, b15⟩ := h2
  exact ⟨b1.trans a1, b2.trans a2, b3.trans a3, b4.trans a4, b5.trans a5, b6.trans a6, b7.trans a7, b8.trans a8, b9.trans a9, b10.trans a10, b11.trans a11, b12.trans a12, b13.trans a13, b14.trans a14, b15.trans a15⟩
def rbL (W : Nat) : Nat := if W = 0 then 640 else (W + 7) / 8
/-- an open raster on both sides -/
def rsP (T : Nat) (oR : ob_Raster) (or : ob_Ref) (X Y sc rw_ W H : Nat) : Prop := fd_Raster_x oR = nI X ∧ fd_Ref_rasterX or = nI X ∧ fd_Raster_y oR = nI Y ∧ fd_Ref_rasterY or = nI Y ∧ fd_Raster_scale oR = nI sc ∧ fd_Ref_scale or = nI sc ∧ fd_Raster_row oR = nI rw_ ∧ fd_Ref_row or = nI rw_ ∧ fd_Raster_width oR = nI W ∧ fd_Ref_rasterWidth or = nI W ∧ fd_Raster_height oR = nI H ∧ fd_Ref_rasterHeight or = nI H ∧ fd_Raster_rowBytes oR = nI (rbL W) ∧ fd_Ref_length or = nI (rbL W) ∧ X ≤ 122400 ∧ Y ≤ 122400 ∧ 1 ≤ sc ∧ sc ≤ 4 ∧ rw_ ≤ 30000 + T ∧ W ≤ 5119 ∧ H ≤ 5119 ∧ (H ≠ 0 → rw_ ≤ H)
/-- the rasters of both sides -/
def rsR (d T : Nat) (oR : ob_Raster) (or : ob_Ref) (g gm : Nat → Int32) : Prop := ∃ (op : Bool) (rsl md nw nh : Nat), fd_Raster_open oR = nI op.toNat ∧ fd_Ref_open or = nI op.toNat ∧ fd_Raster_resolution oR = nI rsl ∧ fd_Ref_resolution or = nI rsl ∧ (75 ≤ rsl ∧ rsl ≤ 300) ∧ fd_Raster_method oR = nI md ∧ fd_Ref_method or = nI md ∧ md ≤ 3 ∧ fd_Raster_nextWidth oR = nI nw ∧ fd_Ref_nextWidth or = nI nw ∧ nw ≤ 5119 ∧ fd_Raster_nextHeight oR = nI nh ∧ fd_Ref_nextHeight or = nI nh ∧ nh ≤ 5119 ∧ fd_Raster_dpi oR = nI d ∧ fd_Ref_dpi or = nI d ∧ (op = true → sdR g gm ∧ ∃ X Y sc rw_ W H, rsP T oR or X Y sc rw_ W H)
theorem sd_zero {g gm : Nat → Int32} (h1 : ∀ i, i < 640 → g i = 0) (h2 : ∀ i, i < 640 → gm i = 0) : sdR g gm := fun i hi => by rw [h1 i hi, h2 i hi]; exact ⟨by unfold is8; decide, rfl⟩
theorem rs_open {N d T X Y : Nat} {oR : ob_Raster} {or : ob_Ref} {od : ob_mDesk} {g gm gS : Nat → Int32} (hN : 1000 < N) (hd : d ≤ 300) (h : rsR d T oR or g gm) (hX : X ≤ 122400) (hY : Y ≤ 122400) (g1 : gS 1 = nI Y) :
    ∃ oR' or' g' gm', ex_Raster_openAt N oR g (nI X) (nI Y) = some (oR', g') ∧ ex_Ref_openRaster N or od gS gm (nI X) = some (or', gm') ∧ rsR d T oR' or' g' gm' ∧ fd_Raster_open oR' = 1 ∧ rfF or or' := by
  have h' := h
  obtain ⟨op, rsl, md, nw, nh, a1, a2, a3, a4, a5, a6, a7, a8, a9, a10, a11, a12, a13, a14, a15, a16, a17⟩ := h'
  obtain ⟨gz, z1, z2⟩ := rs_fill (N := N) hN g
  obtain ⟨gz', z1', z2'⟩ := rm_zero (N := N) hN gm
  unfold ex_Raster_openAt ex_Ref_openRaster
  cases op with
  | true =>
    rw [a1, a2, if_neg (show ¬ nI (true).toNat = 0 by decide), if_neg (show ¬ nI (true).toNat = 0 by decide)]
    exact ⟨oR, or, g, gm, rfl, rfl, h, a1, rfF_refl or⟩
  | false =>
    rw [a1, a2, if_pos (show nI (false).toNat = 0 from rfl), if_pos (show nI (false).toNat = 0 from rfl)]
    have n0 : ¬ nI rsl = 0 := nI_ne0 (by omega) (by omega)
    have p0 : (0 : Int32) < nI rsl := nI_lt (a := 0) (by omega) (by omega)
    have e7 : (nI nw + 7) / 8 = nI ((nw + 7) / 8) := by rw [nI_addL]; exact nI_div (b := 8) (by omega) (by omega)
    have ed : nI d / nI rsl = nI (d / rsl) := nI_div (by omega) (by omega)
    have hq4 : d / rsl ≤ 4 := by
      have : d / rsl ≤ d / 75 := Nat.div_le_div_left a5.1 (by omega)
      omega
    obtain ⟨sc, hsc⟩ : ∃ sc, sc = max 1 (d / rsl) := ⟨_, rfl⟩
    have hsc1 : 1 ≤ sc ∧ sc ≤ 4 := by rw [hsc]; omega
    have ec : (if (1 : Int32) < nI (d / rsl) then nI (d / rsl) else (1 : Int32)) = nI sc := by
      by_cases q : 1 < d / rsl
      · rw [if_pos (show (1 : Int32) < nI (d / rsl) from nI_lt (a := 1) q (by omega)), hsc, Nat.max_eq_right (by omega)]
      · rw [if_neg (show ¬ (1 : Int32) < nI (d / rsl) from nI_nlt (a := 1) (by omega) (by omega)), hsc, Nat.max_eq_left (by omega)]; rfl
    have mk : ∀ (L : Nat), L = rbL nw → rsR d T (fs_Raster_rowBytes (fs_Raster_height (fs_Raster_width (fs_Raster_row (fs_Raster_scale (fs_Raster_y (fs_Raster_x (fs_Raster_open oR 1) (nI X)) (nI Y)) (nI sc)) 0) (nI nw)) (nI nh)) (nI L)) (fs_Ref_length (fs_Ref_row (fs_Ref_scale (fs_Ref_rasterHeight (fs_Ref_rasterWidth (fs_Ref_rasterY (fs_Ref_rasterX (fs_Ref_open or 1) (nI X)) (nI Y)) (nI nw)) (nI nh)) (nI sc)) 0) (nI L)) gz gz' := by
      intro L hL
      refine ⟨true, rsl, md, nw, nh, rfl, rfl, a3, a4, a5, a6, a7, a8, a9, a10, a11, a12, a13, a14, a15, a16, fun _ => ⟨sd_zero z2 z2', X, Y, sc, 0, nw, nh, rfl, rfl, rfl, rfl, rfl, rfl, rfl, rfl, rfl, rfl, rfl, rfl, ?_, ?_, hX, hY, hsc1.1, hsc1.2, by omega, a11, a14, by omega⟩⟩
      · rw [hL]
      · rw [hL]
    have fr : ∀ (L : Int32) (s : Int32), rfF or (fs_Ref_length (fs_Ref_row (fs_Ref_scale (fs_Ref_rasterHeight (fs_Ref_rasterWidth (fs_Ref_rasterY (fs_Ref_rasterX (fs_Ref_open or 1) (nI X)) (nI Y)) (nI nw)) (nI nh)) s) 0) L) := fun L s => ⟨rfl, rfl, rfl, rfl, rfl, rfl, rfl, rfl, rfl, rfl, rfl, rfl, rfl, rfl, rfl⟩
    rw [a3, a4, a9, a10, a12, a13, a15, a16, ed, e7, g1, z1, z1']
    simp only [if_pos p0, if_pos n0, dk_let, ec, Option.bind_some]
    by_cases w0 : nw = 0
    · rw [if_pos (show nI nw = 0 by rw [w0]; rfl), if_pos (show nI nw = 0 by rw [w0]; rfl), if_pos (show nI nw = 0 by rw [w0]; rfl)]
      by_cases q : 1 ≤ d / rsl
      · rw [if_pos (show (1 : Int32) ≤ nI (d / rsl) from nI_le (a := 1) q (by omega))]
        have : d / rsl = sc := by rw [hsc]; omega
        rw [this]
        exact ⟨_, _, _, _, rfl, rfl, mk 640 (by rw [w0]; rfl), rfl, fr _ _⟩
      · rw [if_neg (show ¬ (1 : Int32) ≤ nI (d / rsl) from nI_ge (b := 1) (by omega) (by omega))]
        have : sc = 1 := by rw [hsc]; omega
        subst this
        exact ⟨_, _, _, _, rfl, rfl, mk 640 (by rw [w0]; rfl), rfl, fr _ _⟩
    · have nw0 : ¬ nI nw = 0 := nI_ne0 (by omega) (by omega)
      rw [if_neg nw0, if_neg nw0, if_neg nw0]
      by_cases q : 1 ≤ d / rsl
      · rw [if_pos (show (1 : Int32) ≤ nI (d / rsl) from nI_le (a := 1) q (by omega))]
        have : d / rsl = sc := by rw [hsc]; omega
        rw [this]
        exact ⟨_, _, _, _, rfl, rfl, mk _ (by unfold rbL; rw [if_neg w0]), rfl, fr _ _⟩
      · rw [if_neg (show ¬ (1 : Int32) ≤ nI (d / rsl) from nI_ge (b := 1) (by omega) (by omega))]
        have : sc = 1 := by rw [hsc]; omega
        subst this
        exact ⟨_, _, _, _, rfl, rfl, mk _ (by unfold rbL; rw [if_neg w0]), rfl, fr _ _⟩
def rowT (N : Nat) (or : ob_Ref) (od : ob_mDesk) (os : ob_mSheet) (nd : Nat) (b : Nat → Int64) (gf gm : Nat → Int32) (dt : Int32) : Option rs_Ref_rowOf :=
  if dt ≤ (0 : Int32) then (some (fs_Ref_row or ((fd_Ref_row or) + 1), gf, gm, od, os, b)) else ((ex_mDesk_due N od).bind (fun u => (ex_Ref_paintRow N or os u gm nd b dt).bind (fun v => some (fs_Ref_row or ((fd_Ref_row or) + 1), gf, gm, u, v.1, v.2))))
/-- one row unpacked on both sides -/
theorem rs_row {N T X Y sc rw_ W H md m nd : Nat} {oR : ob_Raster} {or : ob_Ref} {g gm gd gs gf : Nat → Int32} {od : ob_mDesk} {os : ob_mSheet} {b : Nat → Int64} (hN : 2 ^ 22 < N) (h : rsP T oR or X Y sc rw_ W H) (hsd : sdR g gm) (a6 : fd_Raster_method oR = nI md) (a7 : fd_Ref_method or = nI md) (a8 : md ≤ 3) (hnf : H = 0 ∨ rw_ < H) (hd : dtR m gd gs) (hT : T ≤ 2 ^ 27) :
    ∃ g' gm' gf' dt, ex_Raster_unpack N oR 4096 gd g (nI m) = some (g', nI dt) ∧ sdR g' gm' ∧ dt = lastB (rbB g' W) (8 * rbL W) ∧ ex_Ref_rowOf N or gf gm od gs os nd b (nI m) = rowT N or od os nd b gf' gm' (nI dt) := by
  obtain ⟨p1, p2, p3, p4, p5, p6, p7, p8, p9, p10, p11, p12, p13, p14, p15, p16, p17, p18, p19, p20, p21, p22⟩ := h
  have hm := hd.1
  have hL : rbL W ≤ 640 := by unfold rbL; split <;> omega
  have hfull : ex_Raster_isFull N oR = some 0 := by
    unfold ex_Raster_isFull
    rw [p11, p7]
    by_cases q : H = 0
    · rw [if_pos (show nI H = 0 by rw [q]; rfl)]
    · rw [if_neg (show ¬ nI H = 0 from nI_ne0 (by omega) (by omega)), if_pos (nI_lt (by omega) (by omega))]
  have hmin : (if nI 4096 < nI m then nI 4096 else nI m) = nI m := by
    rw [if_neg (nI_nlt (by omega) (by omega))]
  obtain ⟨gf0, f1, f2⟩ := rm_fresh (N := N) (or := or) (by omega) a7 a8 gm gf
  obtain ⟨gz, z1, z2⟩ := rs_fill (N := N) (by omega) g
  have bl : ∀ g', ex_Raster_blackDots N oR g' = some (nI (lastB (rbB g' W) (8 * rbL W))) := fun g' => rc_black (by omega) p9 p13 p20 rfl
  have ld : ∀ g' gm', sdR g' gm' → lp_Ref_rowOf_140d3 N or gm' N 0 0 = some (nI (lastB (rbB g' W) (8 * rbL W))) := fun g' gm' hs => rm_ldots (N := N) p10 p20 p14 hL hs (8 * rbL W) N 0 rfl (by omega) (by omega)
  have cp : ∀ (g' u : Nat → Int32), sdR g' u → ∃ gm', lp_Ref_rowOf_113c2 u N 0 gm = some gm' ∧ sdR g' gm' := fun g' u hs => by
    obtain ⟨gm', c1, c2⟩ := rm_copy (N := N) (by omega) u gm
    exact ⟨gm', c1, fun i hi => by rw [c2 i hi]; exact hs i hi⟩
  unfold ex_Raster_unpack
  rw [hfull]
  simp only [Option.bind_some, if_true, hmin]
  rw [a6]
  by_cases q3 : md = 3
  · subst q3
    rw [if_pos (show nI 3 = 3 from rfl), if_neg (show ¬ nI 3 = 0 by decide), if_neg (show ¬ nI 3 = 1 by decide), if_neg (show ¬ nI 3 = 2 by decide)]
    have hs0 : sdR g gf0 := fun i hi => by rw [f2 i hi, if_pos rfl]; exact hsd i hi
    obtain ⟨g', u, e1, e2, e3⟩ := rs_changes (N := N) (o := oR) (or := or) (od := od) (by omega) p13 p14 hL hd m N N 0 0 g gf0 rfl (by omega) (by omega) (by omega) (by omega) hs0
    have e1' : lp_Raster_unpackChanges_8j9 N oR 4096 gd (nI m) N 0 0 g = some g' := e1
    have e2' : lp_Ref_changes_4j9 N or od gs (nI m) N 0 0 gf0 = some u := e2
    obtain ⟨gm', c1, c2⟩ := cp g' u e3
    refine ⟨g', gm', u, _, ?_, c2, rfl, ?_⟩
    · unfold ex_Raster_unpackChanges
      rw [e1']
      simp only [Option.bind_some]
      rw [bl]; rfl
    · unfold ex_Ref_rowOf rowT
      rw [f1]
      simp only [Option.bind_some]
      rw [a7, if_neg (show ¬ nI 3 = 0 by decide), if_neg (show ¬ nI 3 = 1 by decide), if_neg (show ¬ nI 3 = 2 by decide)]
      unfold ex_Ref_changes
      rw [e2']
      simp only [Option.bind_some]
      rw [c1]
      simp only [Option.bind_some]
      rw [ld g' gm' c2]
      simp only [Option.bind_some]
  · have n3 : ¬ nI md = 3 := mt (nI_eq (b := 3) (by omega) (by omega)).mp q3
    have hs0 : sdR gz gf0 := sd_zero z2 (fun i hi => by rw [f2 i hi, if_neg q3])
    rw [if_neg n3, z1]
    simp only [Option.bind_some]
    have hq : md = 0 ∨ md = 1 ∨ md = 2 := by omega
    rcases hq with rfl | rfl | rfl
    · rw [if_pos (show nI 0 = 0 from rfl)]
      obtain ⟨g', u, e1, e2, e3⟩ := rs_plain (N := N) (o := oR) (or := or) (od := od) p13 p14 hL hd m N N 0 gz gf0 rfl (by omega) (by omega) (by omega) hs0
      have e1' : lp_Raster_unpackPlain_2 N oR 4096 gd (nI m) N 0 gz = some g' := e1
      have e2' : lp_Ref_rowOf_48i8 N or od gs (nI m) N 0 gf0 = some u := e2
      obtain ⟨gm', c1, c2⟩ := cp g' u e3
      refine ⟨g', gm', u, _, ?_, c2, rfl, ?_⟩
      · unfold ex_Raster_unpackPlain
        rw [e1']
        simp only [Option.bind_some]
        rw [bl]; rfl
      · unfold ex_Ref_rowOf rowT
        rw [f1]
        simp only [Option.bind_some]
        rw [a7, if_pos (show nI 0 = 0 from rfl)]
        skip
        rw [e2']
        simp only [Option.bind_some]
        rw [rc_j9, c1]
        simp only [Option.bind_some]
        rw [ld g' gm' c2]
        simp only [Option.bind_some]
    · rw [if_neg (show ¬ nI 1 = 0 by decide), if_pos (show nI 1 = 1 from rfl)]
      obtain ⟨g', u, e1, e2, e3⟩ := rs_pairs (N := N) (o := oR) (or := or) (od := od) (by omega) p13 p14 hL hd m N N 0 0 gz gf0 rfl (by omega) (by omega) (by omega) (by omega) hs0
      have e1' : lp_Raster_unpackPairs_5d3 N oR 4096 gd (nI m) N 0 0 gz = some g' := e1
      have e2' : lp_Ref_pairs_4d3 N or od gs (nI m) N 0 0 gf0 = some u := e2
      obtain ⟨gm', c1, c2⟩ := cp g' u e3
      refine ⟨g', gm', u, _, ?_, c2, rfl, ?_⟩
      · unfold ex_Raster_unpackPairs
        rw [e1']
        simp only [Option.bind_some]
        rw [bl]; rfl
      · unfold ex_Ref_rowOf rowT
        rw [f1]
        simp only [Option.bind_some]
        rw [a7, if_neg (show ¬ nI 1 = 0 by decide), if_pos (show nI 1 = 1 from rfl)]
        unfold ex_Ref_pairs
        rw [e2']
        simp only [Option.bind_some]
        rw [rc_g6, c1]
        simp only [Option.bind_some]
        rw [ld g' gm' c2]
        simp only [Option.bind_some]
    · rw [if_neg (show ¬ nI 2 = 0 by decide), if_neg (show ¬ nI 2 = 1 by decide), if_pos (show nI 2 = 2 from rfl)]
      obtain ⟨g', u, e1, e2, e3⟩ := rs_runs (N := N) (o := oR) (or := or) (od := od) (by omega) p13 p14 hL hd m N N 0 0 0 0 gz gf0 rfl (by omega) (by omega) (by omega) (by omega) (fun _ => ⟨rfl, rfl⟩) (fun hq => Or.inl hq) (by omega) hs0
      have e1' : lp_Raster_unpackRuns_8z25 N oR 4096 gd (nI m) N 0 0 gz = some g' := e1
      have e2' : lp_Ref_packed_4f5 N or od gs (nI m) N 0 0 gf0 = some u := e2
      obtain ⟨gm', c1, c2⟩ := cp g' u e3
      refine ⟨g', gm', u, _, ?_, c2, rfl, ?_⟩
      · unfold ex_Raster_unpackRuns
        rw [e1']
        simp only [Option.bind_some]
        rw [bl]; rfl
      · unfold ex_Ref_rowOf rowT
        rw [f1]
        simp only [Option.bind_some]
        rw [a7, if_neg (show ¬ nI 2 = 0 by decide), if_neg (show ¬ nI 2 = 1 by decide), if_pos (show nI 2 = 2 from rfl)]
        unfold ex_Ref_packed
        rw [e2']
        simp only [Option.bind_some]
        rw [rc_e4, c1]
        simp only [Option.bind_some]
        rw [ld g' gm' c2]
        simp only [Option.bind_some]
