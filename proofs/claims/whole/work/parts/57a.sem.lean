theorem tb_s {N w nb fr x f : Nat} {g gl : Nat → Int32} {t b : Bool} {o : ob_Coder} (hw : w ≤ 10000) (ho : fd_Coder_width o = nI w) (hx : x < w) (hnb : nb ≤ 65536) (hfr : fr + x / 8 < nb) : lp_Coder_takeBytes_23 N nb g (nI fr) (nI t.toNat) (f + 1) (nI x) (nI b.toNat) o gl = if (sbit t g fr x ^^ false) = b then lp_Coder_takeBytes_23 N nb g (nI fr) (nI t.toNat) f (nI (x + 1)) (nI b.toNat) o gl else (ex_Coder_addChange N o gl (nI x)).bind (fun u => lp_Coder_takeBytes_23 N nb g (nI fr) (nI t.toNat) f (nI (x + 1)) (nI (sbit t g fr x ^^ false).toNat) u.1 u.2) := by
  conv => lhs; unfold lp_Coder_takeBytes_23
  have e1 : nI fr + nI x / 8 = nI (fr + x / 8) := by rw [show nI x / 8 = nI (x / 8) from nI_div (b := 8) (by omega) (by omega), nI_add]
  have e2 : nI x &&& 7 = nI (x % 8) := nI_and7 (by omega)
  have e3 : (7 : Int32) - nI (x % 8) = nI (7 - x % 8) := nI_sub (a := 7) (by omega)
  have c0 : ¬ nI (fr + x / 8) < 0 := nI_pos (by omega)
  have c1 : ¬ nI nb ≤ nI (fr + x / 8) := nI_ge (by omega) (by omega)
  have xx : ∀ d : Bool, nI d.toNat ^^^ (0 : Int32) = nI (d ^^ false).toNat := by decide
  have ee : ∀ d b : Bool, (nI d.toNat = nI b.toNat) = (d = b) := by decide
  rw [ho, if_neg (nI_ge (by omega) (by omega)), e1, if_neg c0, if_neg c1, if_neg c0, if_neg c1, e2, e3, show nI x + 1 = nI (x + 1) from nI_add x 1]
  simp only [if_pos (dk_in_nI hfr (show nb < 2 ^ 31 by omega)), dk_let]
  rw [nI_clamp (by omega)]
  cases t with
  | false =>
    rw [if_pos (show nI false.toNat = 0 from rfl), i32_bit _ (by omega)]
    have es : (u8 (g (fr + x / 8))).testBit (7 - x % 8) = sbit false g fr x := rfl
    rw [es, xx]
    simp only [ee]
  | true =>
    rw [if_neg (show ¬ nI true.toNat = 0 by decide), i32_bit _ (by omega)]
    have es : (u8 (g (fr + x / 8))).testBit (x % 8) = sbit true g fr x := rfl
    rw [es, xx]
    simp only [ee]
theorem tb_l {N w nb fr : Nat} {g : Nat → Int32} {t : Bool} {a b c d e f : Int32} (hw : w ≤ 10000) (hnb : nb ≤ 65536) (hfr : fr + (w + 7) / 8 ≤ nb) : ∀ (r x k n : Nat) (ch : Nat → Nat) (gl : Nat → Int32), x + r = w → r < k → isCh x n ch (fun x => sbit t g fr x ^^ false) → chA n gl ch →
    ∃ (n2 : Nat) (ch2 : Nat → Nat) (g2 : Nat → Int32), lp_Coder_takeBytes_23 N nb g (nI fr) (nI t.toNat) k (nI x) (nI (decide (0 < x) && (sbit t g fr (x - 1) ^^ false)).toNat) (nI w, a, b, c, d, e, f, nI n) gl = some ((nI w, a, b, c, d, e, f, nI n2), g2) ∧ isCh w n2 ch2 (fun x => sbit t g fr x ^^ false) ∧ chA n2 g2 ch2 := by
  intro r
  induction r with
  | zero =>
    intro x k n ch gl hx hk hc ha
    obtain ⟨k, rfl⟩ : ∃ z, k = z + 1 := ⟨k - 1, by omega⟩
    have hxw : x = w := by omega
    subst hxw
    refine ⟨n, ch, gl, ?_, hc, ha⟩
    unfold lp_Coder_takeBytes_23
    exact if_pos (Int32.le_refl _)
  | succ r ih =>
    intro x k n ch gl hx hk hc ha
    obtain ⟨k, rfl⟩ : ∃ z, k = z + 1 := ⟨k - 1, by omega⟩
    have hn := isCh_le hc
    rw [tb_s (w := w) hw rfl (by omega) hnb (by omega)]
    have ep : (decide (0 < x + 1) && (sbit t g fr (x + 1 - 1) ^^ false)) = (sbit t g fr x ^^ false) := by simp
    by_cases q : (sbit t g fr x ^^ false) = (decide (0 < x) && (sbit t g fr (x - 1) ^^ false))
    · rw [if_pos q, ← q]
      have := ih (x + 1) k n ch gl (by omega) (by omega) (isCh_go hc q) ha
      rw [ep] at this
      exact this
    · rw [if_neg q, sm_addChange (i := 0) hw (by omega) (by omega), if_pos (show x < w by omega), Option.bind_some]
      have := ih (x + 1) k (n + 1) (nset ch n x) (upd gl n (nI x)) (by omega) (by omega) (isCh_new hc q) (chA_push ha)
      rw [ep] at this
      exact this
theorem tb_sc2 {N w nb fr x f : Nat} {g gl : Nat → Int32} {t b : Bool} {o : ob_Coder} (hw : w ≤ 10000) (ho : fd_Coder_width o = nI w) (hx : x < w) (hnb : nb ≤ 65536) (hfr : fr + x / 8 < nb) : lp_Coder_takeBytes_23c2 N nb g (nI fr) (nI t.toNat) (f + 1) (nI x) (nI b.toNat) o gl = if (sbit t g fr x ^^ true) = b then lp_Coder_takeBytes_23c2 N nb g (nI fr) (nI t.toNat) f (nI (x + 1)) (nI b.toNat) o gl else (ex_Coder_addChange N o gl (nI x)).bind (fun u => lp_Coder_takeBytes_23c2 N nb g (nI fr) (nI t.toNat) f (nI (x + 1)) (nI (sbit t g fr x ^^ true).toNat) u.1 u.2) := by
  conv => lhs; unfold lp_Coder_takeBytes_23c2
  have e1 : nI fr + nI x / 8 = nI (fr + x / 8) := by rw [show nI x / 8 = nI (x / 8) from nI_div (b := 8) (by omega) (by omega), nI_add]
  have e2 : nI x &&& 7 = nI (x % 8) := nI_and7 (by omega)
  have e3 : (7 : Int32) - nI (x % 8) = nI (7 - x % 8) := nI_sub (a := 7) (by omega)
  have c0 : ¬ nI (fr + x / 8) < 0 := nI_pos (by omega)
  have c1 : ¬ nI nb ≤ nI (fr + x / 8) := nI_ge (by omega) (by omega)
  have xx : ∀ d : Bool, nI d.toNat ^^^ (1 : Int32) = nI (d ^^ true).toNat := by decide
  have ee : ∀ d b : Bool, (nI d.toNat = nI b.toNat) = (d = b) := by decide
  rw [ho, if_neg (nI_ge (by omega) (by omega)), e1, if_neg c0, if_neg c1, if_neg c0, if_neg c1, e2, e3, show nI x + 1 = nI (x + 1) from nI_add x 1]
  simp only [if_pos (dk_in_nI hfr (show nb < 2 ^ 31 by omega)), dk_let]
  rw [nI_clamp (by omega)]
  cases t with
  | false =>
    rw [if_pos (show nI false.toNat = 0 from rfl), i32_bit _ (by omega)]
    have es : (u8 (g (fr + x / 8))).testBit (7 - x % 8) = sbit false g fr x := rfl
    rw [es, xx]
    simp only [ee]
  | true =>
    rw [if_neg (show ¬ nI true.toNat = 0 by decide), i32_bit _ (by omega)]
    have es : (u8 (g (fr + x / 8))).testBit (x % 8) = sbit true g fr x := rfl
    rw [es, xx]
    simp only [ee]
theorem tb_lc2 {N w nb fr : Nat} {g : Nat → Int32} {t : Bool} {a b c d e f : Int32} (hw : w ≤ 10000) (hnb : nb ≤ 65536) (hfr : fr + (w + 7) / 8 ≤ nb) : ∀ (r x k n : Nat) (ch : Nat → Nat) (gl : Nat → Int32), x + r = w → r < k → isCh x n ch (fun x => sbit t g fr x ^^ true) → chA n gl ch →
    ∃ (n2 : Nat) (ch2 : Nat → Nat) (g2 : Nat → Int32), lp_Coder_takeBytes_23c2 N nb g (nI fr) (nI t.toNat) k (nI x) (nI (decide (0 < x) && (sbit t g fr (x - 1) ^^ true)).toNat) (nI w, a, b, c, d, e, f, nI n) gl = some ((nI w, a, b, c, d, e, f, nI n2), g2) ∧ isCh w n2 ch2 (fun x => sbit t g fr x ^^ true) ∧ chA n2 g2 ch2 := by
  intro r
  induction r with
  | zero =>
    intro x k n ch gl hx hk hc ha
    obtain ⟨k, rfl⟩ : ∃ z, k = z + 1 := ⟨k - 1, by omega⟩
    have hxw : x = w := by omega
    subst hxw
    refine ⟨n, ch, gl, ?_, hc, ha⟩
    unfold lp_Coder_takeBytes_23c2
    exact if_pos (Int32.le_refl _)
  | succ r ih =>
    intro x k n ch gl hx hk hc ha
    obtain ⟨k, rfl⟩ : ∃ z, k = z + 1 := ⟨k - 1, by omega⟩
    have hn := isCh_le hc
    rw [tb_sc2 (w := w) hw rfl (by omega) hnb (by omega)]
    have ep : (decide (0 < x + 1) && (sbit t g fr (x + 1 - 1) ^^ true)) = (sbit t g fr x ^^ true) := by simp
    by_cases q : (sbit t g fr x ^^ true) = (decide (0 < x) && (sbit t g fr (x - 1) ^^ true))
    · rw [if_pos q, ← q]
      have := ih (x + 1) k n ch gl (by omega) (by omega) (isCh_go hc q) ha
      rw [ep] at this
      exact this
    · rw [if_neg q, sm_addChange (i := 0) hw (by omega) (by omega), if_pos (show x < w by omega), Option.bind_some]
      have := ih (x + 1) k (n + 1) (nset ch n x) (upd gl n (nI x)) (by omega) (by omega) (isCh_new hc q) (chA_push ha)
      rw [ep] at this
      exact this
theorem tb_take {N w nb fr : Nat} {g gl : Nat → Int32} {t v : Bool} {a b c d e f i : Int32} (hN : 20000 < N) (hw : w ≤ 10000) (hnb : nb ≤ 65536) (hfr : fr + (w + 7) / 8 ≤ nb) :
    ∃ (n2 : Nat) (ch2 : Nat → Nat) (g2 : Nat → Int32), ex_Coder_takeBytes N (nI w, a, b, c, d, e, f, i) nb g gl (nI fr) (nI t.toNat) (nI v.toNat) = some ((nI w, a, b, c, d, e, f, nI n2), g2) ∧ isCh w n2 ch2 (fun x => sbit t g fr x ^^ v) ∧ chA n2 g2 ch2 := by
  unfold ex_Coder_takeBytes
  cases v with
  | false =>
    obtain ⟨n2, ch2, g2, h1, h2, h3⟩ := tb_l (N := N) (t := t) (g := g) (a := a) (b := b) (c := c) (d := d) (e := e) (f := f) hw hnb hfr w 0 N 0 (fun _ => 0) gl (by omega) (by omega) (isCh_zero _) (fun j hj => absurd hj (by omega))
    refine ⟨n2, ch2, g2, ?_, h2, h3⟩
    have h1' : lp_Coder_takeBytes_23 N nb g (nI fr) (nI t.toNat) N 0 0 (nI w, a, b, c, d, e, f, 0) gl = _ := h1
    rw [if_pos (show nI false.toNat = 0 from rfl)]
    show (lp_Coder_takeBytes_23 N nb g (nI fr) (nI t.toNat) N 0 0 (nI w, a, b, c, d, e, f, 0) gl).bind _ = _
    rw [h1']; rfl
  | true =>
    obtain ⟨n2, ch2, g2, h1, h2, h3⟩ := tb_lc2 (N := N) (t := t) (g := g) (a := a) (b := b) (c := c) (d := d) (e := e) (f := f) hw hnb hfr w 0 N 0 (fun _ => 0) gl (by omega) (by omega) (isCh_zero _) (fun j hj => absurd hj (by omega))
    refine ⟨n2, ch2, g2, ?_, h2, h3⟩
    have h1' : lp_Coder_takeBytes_23c2 N nb g (nI fr) (nI t.toNat) N 0 0 (nI w, a, b, c, d, e, f, 0) gl = _ := h1
    rw [if_neg (show ¬ nI true.toNat = 0 by decide)]
    show (lp_Coder_takeBytes_23c2 N nb g (nI fr) (nI t.toNat) N 0 0 (nI w, a, b, c, d, e, f, 0) gl).bind _ = _
    rw [h1']; rfl
theorem isCh_drop {w n : Nat} {ch : Nat → Nat} {p : Nat → Bool} (h : isCh w n ch p) (hn : 0 < n) (h0 : ch 0 = 0) : isCh w (n - 1) (fun j => ch (j + 1)) (fun x => !p x) := by
  refine ⟨fun i hi => h.1 (i + 1) (by omega), fun i hi => h.2.1 (i + 1) (by omega), fun j x hj h1 h2 h3 => ?_⟩
  have := h.2.2 (j + 1) x (by omega) (Or.inr (by
    show ch j ≤ x
    rcases h1 with h1 | h1
    · rw [h1, h0]; omega
    · by_cases e : j = 0
      · rw [e, h0]; omega
      · have e2 : j - 1 + 1 = j := by omega
        have h1' : ch (j - 1 + 1) ≤ x := h1
        rw [e2] at h1'; exact h1')) (by
    unfold chx at h2 ⊢
    by_cases q : j + 1 < n
    · rw [if_pos q]; rw [if_pos (by omega)] at h2; exact h2
    · rw [if_neg q]; exact h3) h3
  show (!p x) = _
  rw [this]
  by_cases q : j % 2 = 1
  · simp [q]; omega
  · simp [q]; omega
theorem isCh_first {w n : Nat} {ch : Nat → Nat} {p : Nat → Bool} (h : isCh w n ch p) (hw : 0 < w) (h0 : 0 < n → 0 < ch 0) : isCh w (n + 1) (fun j => if j = 0 then 0 else ch (j - 1)) (fun x => !p x) := by
  refine ⟨fun i hi => ?_, fun i hi => ?_, fun j x hj h1 h2 h3 => ?_⟩
  · show (if i = 0 then 0 else ch (i - 1)) < w
    split
    · exact hw
    · exact h.1 (i - 1) (by omega)
  · show (if i = 0 then 0 else ch (i - 1)) < (if i + 1 = 0 then 0 else ch (i + 1 - 1))
    rw [if_neg (show ¬ i + 1 = 0 by omega), show i + 1 - 1 = i by omega]
    by_cases e : i = 0
    · rw [if_pos e, e]; exact h0 (by omega)
    · rw [if_neg e]
      have := h.2.1 (i - 1) (by omega)
      rw [show i - 1 + 1 = i by omega] at this
      exact this
  · by_cases e : j = 0
    · subst e
      unfold chx at h2
      rw [if_pos (by omega)] at h2
      exact absurd h2 (by simp)
    · have := h.2.2 (j - 1) x (by omega) (by
        by_cases e1 : j - 1 = 0
        · exact Or.inl e1
        · right
          rcases h1 with h1 | h1
          · exact absurd h1 e
          · have h1' : (if j - 1 = 0 then 0 else ch (j - 1 - 1)) ≤ x := h1
            rw [if_neg e1] at h1'; exact h1') (by
        unfold chx at h2 ⊢
        by_cases q : j - 1 < n
        · rw [if_pos q]
          rw [if_pos (by omega)] at h2
          have h2' : x < (if j = 0 then 0 else ch (j - 1)) := h2
          rw [if_neg e] at h2'; exact h2'
        · rw [if_neg q]; exact h3) h3
      show (!p x) = _
      rw [this]
      by_cases q : (j - 1) % 2 = 1
      · simp [q]; omega
      · simp [q]; omega
theorem tc_l {N w nv n : Nat} {gv : Nat → Int32} {ch : Nat → Nat} {a b c d e f : Int32} (hw : w ≤ 10000) (hn : n ≤ nv) (hnv : nv < 2 ^ 31) (hg : chA n gv ch) (hc : ∀ i, i < n → ch i < w) : ∀ (r i k m : Nat) (ch2 : Nat → Nat) (gl : Nat → Int32), i + r = n → r < k → m + r ≤ 10000 → chA m gl ch2 →
    ∃ (g2 : Nat → Int32), lp_Coder_takeChanges_44 N nv gv (nI n) k (nI i) (nI w, a, b, c, d, e, f, nI m) gl = some ((nI w, a, b, c, d, e, f, nI (m + r)), g2) ∧ chA (m + r) g2 (fun j => if j < m then ch2 j else ch (i + (j - m))) := by
  intro r
  induction r with
  | zero =>
    intro i k m ch2 gl hi hk hm ha
    obtain ⟨k, rfl⟩ : ∃ z, k = z + 1 := ⟨k - 1, by omega⟩
    refine ⟨gl, ?_, fun j hj => by
      show gl j = nI (if j < m then ch2 j else ch (i + (j - m)))
      rw [if_pos (by omega)]; exact ha j (by omega)⟩
    unfold lp_Coder_takeChanges_44
    rw [if_pos ((nI_leI (by omega) (by omega)).mpr (by omega))]
    rfl
  | succ r ih =>
    intro i k m ch2 gl hi hk hm ha
    obtain ⟨k, rfl⟩ : ∃ z, k = z + 1 := ⟨k - 1, by omega⟩
    unfold lp_Coder_takeChanges_44
    have hci := hc i (by omega)
    have e1 : ex_Coder_changeAt N nv gv (nI n) (nI i) (nI w) = some (nI (ch i)) := by
      unfold ex_Coder_changeAt
      rw [if_neg (nI_pos (by omega)), if_neg (nI_ge (by omega) (by omega)), if_neg (nI_ge (by omega) (by omega)), if_pos (dk_in_nI (by omega) (by omega)), nI_clamp (by omega), hg i (by omega)]
    rw [if_neg (nI_ge (by omega) (by omega)), show fd_Coder_width (nI w, a, b, c, d, e, f, nI m) = nI w from rfl, e1, Option.bind_some, sm_addChange (i := 0) hw (by omega) (by omega), if_pos hci, Option.bind_some, show nI i + 1 = nI (i + 1) from nI_add i 1]
    obtain ⟨g2, h1, h2⟩ := ih (i + 1) k (m + 1) (nset ch2 m (ch i)) (upd gl m (nI (ch i))) (by omega) (by omega) (by omega) (chA_push ha)
    rw [show m + 1 + r = m + (r + 1) by omega] at h1 h2
    refine ⟨g2, h1, fun j hj => ?_⟩
    rw [h2 j hj]
    refine congrArg nI ?_
    show (if j < m + 1 then nset ch2 m (ch i) j else ch (i + 1 + (j - (m + 1)))) = (if j < m then ch2 j else ch (i + (j - m)))
    unfold nset
    by_cases q : j < m
    · rw [if_pos (by omega), if_pos q, if_neg (by omega)]
    · by_cases q2 : j = m
      · subst q2; simp
      · rw [if_neg (by omega), if_neg q]; exact congrArg ch (by omega)
theorem chA_congr {n : Nat} {g : Nat → Int32} {c1 c2 : Nat → Nat} (h : chA n g c1) (e : ∀ i, i < n → c1 i = c2 i) : chA n g c2 := fun i hi => by rw [h i hi, e i hi]
theorem tc_take {N w nv n : Nat} {gv gl : Nat → Int32} {ch : Nat → Nat} {p : Nat → Bool} {v : Bool} {a b c d e f i : Int32} (hN : 20000 < N) (hw : w ≤ 10000) (hw1 : 1 ≤ w) (hn : n ≤ nv) (hnv : nv < 2 ^ 31) (hg : chA n gv ch) (hc : isCh w n ch p) :
    ∃ (n2 : Nat) (ch2 : Nat → Nat) (g2 : Nat → Int32), ex_Coder_takeChanges N (nI w, a, b, c, d, e, f, i) nv gv gl (nI n) (nI v.toNat) = some ((nI w, a, b, c, d, e, f, nI n2), g2) ∧ isCh w n2 ch2 (fun x => p x ^^ v) ∧ chA n2 g2 ch2 := by
  have hnw := isCh_le hc
  have hcw := hc.1
  unfold ex_Coder_takeChanges
  show ∃ (n2 : Nat) (ch2 : Nat → Nat) (g2 : Nat → Int32), (if nI v.toNat = 0 then (if nI v.toNat = 0 then ((lp_Coder_takeChanges_44 N nv gv (nI n) N (0 : Int32) (nI w, a, b, c, d, e, f, 0) gl).bind (fun out_18 => some (out_18.1, out_18.2))) else _) else ((ex_Coder_changeAt N nv gv (nI n) (0 : Int32) (nI w)).bind (fun u_52 => if u_52 = (0 : Int32) then ((lp_Coder_takeChanges_44 N nv gv (nI n) N (1 : Int32) (nI w, a, b, c, d, e, f, 0) gl).bind (fun out_123 => some (out_123.1, out_123.2))) else (if nI v.toNat = 0 then _ else ((ex_Coder_addChange N (nI w, a, b, c, d, e, f, nI 0) gl (nI 0)).bind (fun u_79 => (lp_Coder_takeChanges_44 N nv gv (nI n) N (0 : Int32) u_79.1 u_79.2).bind (fun out_99 => some (out_99.1, out_99.2)))))))) = some ((nI w, a, b, c, d, e, f, nI n2), g2) ∧ _
  cases v with
  | false =>
    obtain ⟨g2, h1, h2⟩ := tc_l (N := N) (a := a) (b := b) (c := c) (d := d) (e := e) (f := f) hw hn hnv hg hcw n 0 N 0 (fun _ => 0) gl (by omega) (by omega) (by omega) (fun j hj => absurd hj (by omega))
    have h1' : lp_Coder_takeChanges_44 N nv gv (nI n) N 0 (nI w, a, b, c, d, e, f, 0) gl = _ := h1
    refine ⟨n, ch, g2, ?_, ?_, ?_⟩
    · rw [if_pos (show nI false.toNat = 0 from rfl), h1', show 0 + n = n by omega]; rfl
    · have : (fun x => p x ^^ false) = p := by funext x; simp
      rw [this]; exact hc
    · rw [show 0 + n = n by omega] at h2
      exact chA_congr h2 (fun j hj => by simp)
  | true =>
    have hp : (fun x => p x ^^ true) = (fun x => !p x) := by funext x; simp
    rw [hp]
    have e1 : ex_Coder_changeAt N nv gv (nI n) 0 (nI w) = some (nI (if 0 < n then ch 0 else w)) := by
      unfold ex_Coder_changeAt
      rw [if_neg (show ¬ (0 : Int32) < 0 by decide)]
      by_cases q : 0 < n
      · rw [if_pos q]
        have hg0 := hg 0 q
        rw [if_neg (show ¬ nI n ≤ 0 from nI_ge (a := 0) (by omega) (by omega)), if_neg (show ¬ nI nv ≤ 0 from nI_ge (a := 0) (by omega) (by omega)), if_pos (show dk_in 0 nv from dk_in_nI (n := 0) (by omega) (by omega))]
        exact congrArg some hg0
      · rw [if_neg q, if_pos (show nI n ≤ 0 from (nI_leI (b := 0) (by omega) (by omega)).mpr (by omega))]
    rw [if_neg (show ¬ nI true.toNat = 0 by decide), e1, Option.bind_some]
    by_cases q : 0 < n ∧ ch 0 = 0
    · obtain ⟨g2, h1, h2⟩ := tc_l (N := N) (a := a) (b := b) (c := c) (d := d) (e := e) (f := f) hw hn hnv hg hcw (n - 1) 1 N 0 (fun _ => 0) gl (by omega) (by omega) (by omega) (fun j hj => absurd hj (by omega))
      have h1' : lp_Coder_takeChanges_44 N nv gv (nI n) N 1 (nI w, a, b, c, d, e, f, 0) gl = _ := h1
      refine ⟨n - 1, fun j => ch (j + 1), g2, ?_, isCh_drop hc q.1 q.2, ?_⟩
      · rw [if_pos (show nI (if 0 < n then ch 0 else w) = 0 by rw [if_pos q.1, q.2]; rfl), h1', show 0 + (n - 1) = n - 1 by omega]; rfl
      · rw [show 0 + (n - 1) = n - 1 by omega] at h2
        exact chA_congr h2 (fun j hj => by simp [Nat.add_comm])
    · have hne : ¬ nI (if 0 < n then ch 0 else w) = 0 := by
        have hb : (if 0 < n then ch 0 else w) < 2 ^ 31 ∧ ¬ (if 0 < n then ch 0 else w) = 0 := by
          by_cases q2 : 0 < n
          · have := hcw 0 q2
            rw [if_pos q2]; exact ⟨by omega, fun e => q ⟨q2, e⟩⟩
          · rw [if_neg q2]; exact ⟨by omega, by omega⟩
        exact mt (nI_eq0 hb.1).mp hb.2
      have hn1 : n + 1 ≤ 10000 := by
        by_cases q2 : 0 < n
        · have key : ∀ i, i < n → i + 1 ≤ ch i := by
            intro i
            induction i with
            | zero => intro _; have : ¬ ch 0 = 0 := fun e => q ⟨q2, e⟩; omega
            | succ i ih => intro hi; have h1 := ih (by omega); have h2 := hc.2.1 i hi; omega
          have k1 := key (n - 1) (by omega)
          have k2 := hcw (n - 1) (by omega)
          omega
        · omega
      obtain ⟨g2, h1, h2⟩ := tc_l (N := N) (a := a) (b := b) (c := c) (d := d) (e := e) (f := f) hw hn hnv hg hcw n 0 N 1 (fun _ => 0) (upd gl 0 (nI 0)) (by omega) (by omega) (by omega) (fun j hj => by rw [show j = 0 by omega]; rfl)
      have h1' : lp_Coder_takeChanges_44 N nv gv (nI n) N 0 (nI w, a, b, c, d, e, f, nI (0 + 1)) (upd gl 0 (nI 0)) = _ := h1
      refine ⟨n + 1, fun j => if j = 0 then 0 else ch (j - 1), g2, ?_, isCh_first hc (by omega) (fun q2 => by have : ¬ ch 0 = 0 := fun e => q ⟨q2, e⟩; omega), ?_⟩
      · rw [if_neg hne, if_neg (show ¬ nI true.toNat = 0 by decide), sm_addChange (i := 0) hw (by omega) (by omega), if_pos (show 0 < w by omega), Option.bind_some, h1', show 1 + n = n + 1 by omega]; rfl
      · rw [show 1 + n = n + 1 by omega] at h2
        refine chA_congr h2 (fun j hj => ?_)
        show (if j < 1 then 0 else ch (0 + (j - 1))) = (if j = 0 then 0 else ch (j - 1))
        by_cases e : j = 0
        · rw [if_pos (by omega), if_pos e]
        · rw [if_neg (by omega), if_neg e, Nat.zero_add]
def vN (h : Bool) (g : Nat → Int32) (E : Nat → Option Nat) (i : Nat) : Int := if vR h g E < vH h g E - i * vR h g E then vR h g E else vH h g E - i * vR h g E
def fnA (h : Bool) (g : Nat → Int32) (E : Nat → Option Nat) (c : Nat) : Int := if vlA h g E c 0 300 / vlA h g E c 1 1 < 1 then 1 else if 10000 < vlA h g E c 0 300 / vlA h g E c 1 1 then 10000 else vlA h g E c 0 300 / vlA h g E c 1 1
theorem vS_i {h : Bool} {g : Nat → Int32} {E : Nat → Option Nat} {i : Nat} (hn : nbA h g E) (hi : (i : Int) < vS h g E) : 0 ≤ i * vR h g E ∧ 1 ≤ vH h g E - i * vR h g E := by
  have r6 : 0 ≤ vR h g E := (vlA_r (vlA_r (by omega))).1
  have h3 := hn.2.2.2.2.2.2.2.2.2.2.1
  have h1 : (i : Int) + 1 ≤ (vH h g E + vR h g E - 1) / vR h g E := hi
  have h2 := (Int.le_ediv_iff_mul_le (show 0 < vR h g E by omega)).mp h1
  have e : ((i : Int) + 1) * vR h g E = i * vR h g E + vR h g E := by rw [Int.add_mul, Int.one_mul]
  rw [e] at h2
  exact ⟨Int.mul_nonneg (by omega) r6, by omega⟩
theorem vN_r {h : Bool} {g : Nat → Int32} {E : Nat → Option Nat} {i : Nat} (hn : nbA h g E) (hi : (i : Int) < vS h g E) : 1 ≤ vN h g E i ∧ vN h g E i ≤ 20000 := by
  obtain ⟨h1, h2⟩ := vS_i hn hi
  have h3 := hn.2.2.2.2.2.2.2.2.2.2.1
  have h4 : vH h g E ≤ 20000 := hn.2.2.2.1
  unfold vN
  split <;> omega
theorem ge_c {N nb L : Nat} {o : ob_PictureFile} {g g' ty ct pp : Nat → Int32} {h : Bool} {E : Nat → Option Nat} {i : Nat} (hN : 12 ≤ N) (ho : o.1 = nI L) (hh : o.2.1 = orI h) (hL : L ≤ nb) (hg : agree L g g') (hb : nb ≤ 65536) (hC : enC h g' L E ty ct pp) (hG : enG h g' L E) (hn : nbA h g' E) (h5 : cnA h g' E 5 = vS h g' E) (h7 : cnA h g' E 7 = vS h g' E) (hi : (i : Int) < vS h g' E) :
    ex_PictureFile_linesOf N o nb g 11 ty 11 ct 11 pp (nI i) = some (iI (vN h g' E i)) ∧ ex_PictureFile_placeOf N o nb g 11 ty 11 ct 11 pp (nI i) = some (iI (vlA h g' E 5 i 0)) ∧ ex_PictureFile_lengthOf N o nb g 11 ty 11 ct 11 pp (nI i) = some (iI (vlA h g' E 7 i 0)) := by
  have rS := vS_r hn
  obtain ⟨s1, s2, _⟩ := st_c hN ho hh hL hg hb hC hG hn
  have r6 : 0 ≤ vR h g' E ∧ vR h g' E < 4294967296 := vlA_r (vlA_r (by omega))
  have r1 : 0 ≤ vH h g' E ∧ vH h g' E < 4294967296 := vlA_r (by omega)
  obtain ⟨i1, i2⟩ := vS_i hn hi
  refine ⟨?_, ?_, ?_⟩
  · unfold ex_PictureFile_linesOf
    rw [s1, Option.bind_some, s2, Option.bind_some, Option.bind_some, nI_lI (by omega), lI_mul, lI_sub, dk_let]
    have c1 : (lI (vH h g' E - i * vR h g' E) < lI (vR h g' E)) = (vH h g' E - i * vR h g' E < vR h g' E) := propext (lI_lt (by omega) (by omega))
    have c2 : ¬ lI (vH h g' E - i * vR h g' E) < 0 := mt (lI_lt (b := 0) (by omega) (by omega)).mp (by omega)
    have c3 : ¬ lI (vR h g' E) < 0 := mt (lI_lt (b := 0) (by omega) (by omega)).mp (by omega)
    unfold vN
    by_cases q : vH h g' E - i * vR h g' E < vR h g' E
    · rw [if_pos (c1.mpr q), if_neg c2, if_neg (by omega), lI_i]
    · rw [if_neg (mt c1.mp q), if_neg c3, lI_i]
      by_cases q2 : vR h g' E < vH h g' E - i * vR h g' E
      · rw [if_pos q2]
      · rw [if_neg q2]; exact congrArg (fun z => some (iI z)) (by omega)
  · unfold ex_PictureFile_placeOf
    have := pv_c (c := 5) (i := i) (m := 0) hN ho hh hL hg hb hC hG (by omega) (by omega) (ok_cn hG (by omega) h5 hi)
    have this' : ex_PictureFile_value N o 11 ct 11 ty 11 pp nb g 5 (nI i) 0 = _ := this
    rw [this', Option.bind_some, lI_i]
  · unfold ex_PictureFile_lengthOf
    have := pv_c (c := 7) (i := i) (m := 0) hN ho hh hL hg hb hC hG (by omega) (by omega) (ok_cn hG (by omega) h7 hi)
    have this' : ex_PictureFile_value N o 11 ct 11 ty 11 pp nb g 7 (nI i) 0 = _ := this
    rw [this', Option.bind_some, lI_i]
def inA (h : Bool) (g : Nat → Int32) (E : Nat → Option Nat) : Bool := decide (vlA h g E 3 0 0 = 1)
def tuA (h : Bool) (g : Nat → Int32) (E : Nat → Option Nat) : Bool := decide (vlA h g E 4 0 1 = 2)
theorem gf_c {N nb L : Nat} {o : ob_PictureFile} {g g' ty ct pp : Nat → Int32} {h : Bool} {E : Nat → Option Nat} (hN : 12 ≤ N) (ho : o.1 = nI L) (hh : o.2.1 = orI h) (hL : L ≤ nb) (hg : agree L g g') (hb : nb ≤ 65536) (hC : enC h g' L E ty ct pp) (hG : enG h g' L E) (hn : nbA h g' E) :
    ex_PictureFile_width N o nb g 11 ty 11 ct 11 pp = some (lI (vlA h g' E 0 0 0)) ∧ ex_PictureFile_code N o nb g 11 ty 11 ct 11 pp = some (iI (vlA h g' E 2 0 1)) ∧ ex_PictureFile_inverted N o nb g 11 ty 11 ct 11 pp = some (nI (inA h g' E).toNat) ∧ ex_PictureFile_turned N o nb g 11 ty 11 ct 11 pp = some (nI (tuA h g' E).toNat) ∧ ex_PictureFile_fineness N o nb g 11 ty 11 ct 11 pp 8 = some (iI (fnA h g' E 8)) ∧ ex_PictureFile_fineness N o nb g 11 ty 11 ct 11 pp 9 = some (iI (fnA h g' E 9)) := by
  have pv (c i : Nat) (m : Int) (hc : c < 11) (hi : i < 65536) (hok : okQ h g' E c i) := pv_c (m := m) hN ho hh hL hg hb hC hG hc hi hok
  have p0 : ex_PictureFile_value N o 11 ct 11 ty 11 pp nb g 0 0 0 = some (lI (vlA h g' E 0 0 0)) := pv 0 0 0 (by omega) (by omega) (okQ_0 hG (by omega))
  have p2 : ex_PictureFile_value N o 11 ct 11 ty 11 pp nb g 2 0 1 = some (lI (vlA h g' E 2 0 1)) := pv 2 0 1 (by omega) (by omega) (okQ_0 hG (by omega))
  have p3 : ex_PictureFile_value N o 11 ct 11 ty 11 pp nb g 3 0 0 = some (lI (vlA h g' E 3 0 0)) := pv 3 0 0 (by omega) (by omega) (okQ_0 hG (by omega))
  have p4 : ex_PictureFile_value N o 11 ct 11 ty 11 pp nb g 4 0 1 = some (lI (vlA h g' E 4 0 1)) := pv 4 0 1 (by omega) (by omega) (okQ_0 hG (by omega))
  have r3 := vC_r (c := 3) (m := 0) hG (by omega) (by omega)
  have r4 := vC_r (c := 4) (m := 1) hG (by omega) (by omega)
  have fin (c : Nat) (hc : c = 8 ∨ c = 9) (hz : ¬ vlA h g' E c 1 1 = 0) : ex_PictureFile_fineness N o nb g 11 ty 11 ct 11 pp (nI c) = some (iI (fnA h g' E c)) := by
    have q1 : ex_PictureFile_value N o 11 ct 11 ty 11 pp nb g (nI c) 1 1 = some (lI (vlA h g' E c 1 1)) := pv c 1 1 (by omega) (by omega) (okQ_1 hG hc)
    have q0 : ex_PictureFile_value N o 11 ct 11 ty 11 pp nb g (nI c) 0 300 = some (lI (vlA h g' E c 0 300)) := pv c 0 300 (by omega) (by omega) (okQ_0 hG (by omega))
    have r1 : 0 ≤ vlA h g' E c 1 1 ∧ vlA h g' E c 1 1 < 4294967296 := vlA_r (by omega)
    have r0 : 0 ≤ vlA h g' E c 0 300 ∧ vlA h g' E c 0 300 < 4294967296 := vlA_r (by omega)
    have rd : 0 ≤ vlA h g' E c 0 300 / vlA h g' E c 1 1 ∧ vlA h g' E c 0 300 / vlA h g' E c 1 1 < 4294967296 := ⟨Int.ediv_nonneg r0.1 r1.1, Int.lt_of_le_of_lt (Int.ediv_le_self _ r0.1) r0.2⟩
    unfold ex_PictureFile_fineness fnA
    have c0 : 0 < lg_cmp (lI (vlA h g' E c 1 1)) 0 := (lcmp_gt (b := 0) (by omega) (by omega)).mpr (by omega)
    have c1 : ¬ lI (vlA h g' E c 1 1) = 0 := mt (lI_eq (b := 0) (by omega) (by omega)).mp hz
    rw [q1, Option.bind_some, if_pos c0, q0, Option.bind_some, if_pos c1, lI_divp (by omega) (by omega), dk_let]
    generalize vlA h g' E c 0 300 / vlA h g' E c 1 1 = z at *
    have z1 : (lI z < 10000) = (z < 10000) := propext (lI_lt (b := 10000) (by omega) (by omega))
    have z2 : (lI z < 1) = (z < 1) := propext (lI_lt (b := 1) (by omega) (by omega))
    by_cases a1 : z < 1
    · rw [if_pos (z1.mpr (by omega)), if_pos (z2.mpr a1), if_pos a1]; rfl
    · rw [if_neg a1]
      by_cases a2 : z < 10000
      · rw [if_pos (z1.mpr a2), if_neg (mt z2.mp a1), if_neg (by omega), lI_i]
      · rw [if_neg (mt z1.mp a2), if_neg (show ¬ (10000 : Int64) < 1 by decide)]
        by_cases a3 : 10000 < z
        · rw [if_pos a3]; rfl
        · rw [if_neg a3, show z = 10000 by omega]; rfl
  refine ⟨?_, ?_, ?_, ?_, fin 8 (by omega) hn.2.2.2.2.2.2.2.2.2.2.2.1, fin 9 (by omega) hn.2.2.2.2.2.2.2.2.2.2.2.2⟩
  · unfold ex_PictureFile_width; rw [p0]; rfl
  · unfold ex_PictureFile_code; rw [p2, Option.bind_some, lI_i]
  · unfold ex_PictureFile_inverted inA
    have c1 : (lg_cmp (lI (vlA h g' E 3 0 0)) 1 = 0) = (vlA h g' E 3 0 0 = 1) := propext (lcmp_eq (b := 1) (by omega) (by omega))
    rw [p3, Option.bind_some]
    by_cases q : vlA h g' E 3 0 0 = 1
    · rw [if_pos (c1.mpr q), decide_eq_true q]; rfl
    · rw [if_neg (mt c1.mp q), decide_eq_false q]; rfl
  · unfold ex_PictureFile_turned tuA
    have c1 : (lg_cmp (lI (vlA h g' E 4 0 1)) 2 = 0) = (vlA h g' E 4 0 1 = 2) := propext (lcmp_eq (b := 2) (by omega) (by omega))
    rw [p4, Option.bind_some]
    by_cases q : vlA h g' E 4 0 1 = 2
    · rw [if_pos (c1.mpr q), decide_eq_true q]; rfl
    · rw [if_neg (mt c1.mp q), decide_eq_false q]; rfl
theorem fn_m {N : Nat} {h : Bool} {g : Nat → Int32} {E : Nat → Option Nat} {c : Nat} (hz : ¬ vlA h g E c 1 1 = 0) : ex_Ref_fineness N (lI (vlA h g E c 0 300)) (lI (vlA h g E c 1 1)) = some (iI (fnA h g E c)) := by
  have r1 : 0 ≤ vlA h g E c 1 1 ∧ vlA h g E c 1 1 < 4294967296 := vlA_r (by omega)
  have r0 : 0 ≤ vlA h g E c 0 300 ∧ vlA h g E c 0 300 < 4294967296 := vlA_r (by omega)
  have rd : 0 ≤ vlA h g E c 0 300 / vlA h g E c 1 1 ∧ vlA h g E c 0 300 / vlA h g E c 1 1 < 4294967296 := ⟨Int.ediv_nonneg r0.1 r1.1, Int.lt_of_le_of_lt (Int.ediv_le_self _ r0.1) r0.2⟩
  unfold ex_Ref_fineness fnA
  have c1 : ¬ lI (vlA h g E c 1 1) = 0 := mt (lI_eq (b := 0) (by omega) (by omega)).mp hz
  rw [if_pos c1, lI_divp (by omega) (by omega)]
  generalize vlA h g E c 0 300 / vlA h g E c 1 1 = z at *
  have z1 : (0 ≤ lg_cmp (lI z) 1) = (1 ≤ z) := propext (lcmp_ge (b := 1) (by omega) (by omega))
  have z2 : (lg_cmp (lI z) 10000 ≤ 0) = (z ≤ 10000) := propext (lcmp_le (b := 10000) (by omega) (by omega))
  by_cases a1 : z < 1
  · rw [if_neg (mt z1.mp (by omega)), if_pos a1]; rfl
  · rw [if_pos (z1.mpr (by omega)), if_neg a1]
    by_cases a2 : z ≤ 10000
    · rw [if_pos (z2.mpr a2), if_neg (by omega), lI_i]
    · rw [if_neg (mt z2.mp a2), if_pos (by omega)]; rfl
theorem fnA_r (h : Bool) (g : Nat → Int32) (E : Nat → Option Nat) (c : Nat) : 1 ≤ fnA h g E c ∧ fnA h g E c ≤ 10000 := by
  unfold fnA; split <;> (try split) <;> omega
def plL (t v : Bool) (g : Nat → Int32) (pl ac l : Nat) : Nat → Bool := fun x => sbit t g (pl + l * ac) x ^^ v
theorem isCh_cg {w n : Nat} {ch : Nat → Nat} {p q : Nat → Bool} (h : isCh w n ch p) (e : ∀ x, x < w → p x = q x) : isCh w n ch q := ⟨h.1, h.2.1, fun j x h1 h2 h3 h4 => (e x h4).symm.trans (h.2.2 j x h1 h2 h3 h4)⟩
theorem ps_l {N w s P m pl L : Nat} {t v : Bool} {g g' g0 : Nat → Int32} {of : ob_OutFile} (hN : 20000 < N) (hw : w ≤ 10000) (hs : s < 100000) (hm : m ≤ 20000) (hpl : pl + m * ((w + 7) / 8) ≤ 65536) (hg : agree L g g') (hpL : pl + m * ((w + 7) / 8) ≤ L) :
    ∀ (r l f : Nat) (o : ob_Coder) (gl ga gb : Nat → Int32) (up : Nat → Bool) (B : List Bool), l + r = m → r < f → cLn w s P up B o ga gb g0 →
      ∃ o' gl' ga' gb', lp_Main_codePlainStrip_76 N g of (iI (m : Int)) (iI (pl : Int)) (lI (w : Int)) (nI t.toNat) (nI v.toNat) f (nI l) o gl ga gb = some (o', gl', ga', gb') ∧ cLn w s P (lastU ((List.range' l r).map (plL t v g' pl ((w + 7) / 8))) up) (linesB w ((List.range' l r).map (plL t v g' pl ((w + 7) / 8))) up B) o' ga' gb' g0 := by
  intro r
  induction r with
  | zero =>
    intro l f o gl ga gb up B hl hf hc
    obtain ⟨f, rfl⟩ : ∃ z, f = z + 1 := ⟨f - 1, by omega⟩
    refine ⟨o, gl, ga, gb, ?_, hc⟩
    unfold lp_Main_codePlainStrip_76
    rw [← nI_iI m, if_pos ((nI_leI (by omega) (by omega)).mpr (by omega))]
  | succ r ih =>
    intro l f o gl ga gb up B hl hf hc
    obtain ⟨f, rfl⟩ : ∃ z, f = z + 1 := ⟨f - 1, by omega⟩
    obtain ⟨wd, a, b, c, d, e, fu, i⟩ := o
    have hwd : wd = nI w := hc.1
    subst hwd
    have hmul : l * ((w + 7) / 8) + (w + 7) / 8 ≤ m * ((w + 7) / 8) := by
      rw [← Nat.succ_mul]; exact Nat.mul_le_mul_right _ (by omega)
    have e1 : iI (pl : Int) + nI l * (((lI (w : Int)).toInt32 + 7) / 8) = nI (pl + l * ((w + 7) / 8)) := by
      rw [← nI_iI pl, lI_i, ← nI_iI w, show nI w + 7 = nI (w + 7) from nI_add w 7, show nI (w + 7) / 8 = nI ((w + 7) / 8) from nI_div (b := 8) (by omega) (by omega), nI_mul, nI_add]
    obtain ⟨n2, ch2, g2, h1, h2, h3⟩ := tb_take (N := N) (g := g) (gl := gl) (t := t) (v := v) (a := a) (b := b) (c := c) (d := d) (e := e) (f := fu) (i := i) (nb := 65536) (fr := pl + l * ((w + 7) / 8)) hN hw (by omega) (by omega)
    have h2 : isCh w n2 ch2 (plL t v g' pl ((w + 7) / 8) l) := isCh_cg h2 (fun x hx => by
      show (sbit t g (pl + l * ((w + 7) / 8)) x ^^ v) = (sbit t g' (pl + l * ((w + 7) / 8)) x ^^ v)
      unfold sbit
      rw [hg _ (by omega)])
    obtain ⟨o2, ga2, gl2, gb2, h4, h5⟩ := sm_codeLine (of := of) hN hw hs (cLn_lc (nI n2) hc) (fun _ => ⟨rfl, by have := isCh_le h2; omega, h3, h2⟩)
    obtain ⟨o', gl', ga', gb', h6, h7⟩ := ih (l + 1) f o2 gl2 ga2 gb2 _ _ (by omega) (by omega) h5
    refine ⟨o', gl', ga', gb', ?_, ?_⟩
    · unfold lp_Main_codePlainStrip_76
      rw [← nI_iI m, if_neg (nI_ge (by omega) (by omega)), nI_iI m, e1, h1, Option.bind_some, h4, Option.bind_some, show nI l + 1 = nI (l + 1) from nI_add l 1]
      exact h6
    · rw [List.range'_succ]
      exact h7
theorem ps_c {N L s P i w : Nat} {o : ob_PictureFile} {om : ob_Main} {g g' ty ct pp g0 gl ga gb : Nat → Int32} {h : Bool} {E : Nat → Option Nat} {oc : ob_Coder} {of : ob_OutFile} {up : Nat → Bool} {B : List Bool} (hN : 65550 ≤ N) (ho : o.1 = nI L) (hh : o.2.1 = orI h) (hL : L ≤ 65536) (hg : agree L g g') (hC : enC h g' L E ty ct pp) (hG : enG h g' L E) (hn : nbA h g' E) (h5 : cnA h g' E 5 = vS h g' E) (h7 : cnA h g' E 7 = vS h g' E) (hi : (i : Int) < vS h g' E) (hst : stA h g' L E i) (hW : vlA h g' E 0 0 0 = (w : Int)) (hw : w ≤ 10000) (hs : s < 100000) (hc : cLn w s P up B oc ga gb g0) :
    if vN h g' E i * ((w + 7) / 8 : Nat) ≤ vlA h g' E 7 i 0 then ∃ oc' gl' ga' gb', ex_Main_codePlainStrip N om o g 11 ty 11 ct 11 pp oc gl of ga gb (nI i) = some (oc', gl', ga', gb', 0) ∧ cLn w s P (lastU ((List.range' 0 (vN h g' E i).toNat).map (plL (tuA h g' E) (inA h g' E) g' (vlA h g' E 5 i 0).toNat ((w + 7) / 8))) up) (linesB w ((List.range' 0 (vN h g' E i).toNat).map (plL (tuA h g' E) (inA h g' E) g' (vlA h g' E 5 i 0).toNat ((w + 7) / 8))) up B) oc' ga' gb' g0
    else ex_Main_codePlainStrip N om o g 11 ty 11 ct 11 pp oc gl of ga gb (nI i) = some (oc, gl, ga, gb, 18) := by
  obtain ⟨q1, q2, q3⟩ := ge_c (i := i) (by omega : 12 ≤ N) ho hh hL hg (Nat.le_refl _) hC hG hn h5 h7 hi
  obtain ⟨q4, _, q5, q6, _⟩ := gf_c (by omega : 12 ≤ N) ho hh hL hg (Nat.le_refl _) hC hG hn
  have rN := vN_r hn hi
  have r5 : 0 ≤ vlA h g' E 5 i 0 ∧ vlA h g' E 5 i 0 < 4294967296 := vlA_r (by omega)
  have r7 : 0 ≤ vlA h g' E 7 i 0 ∧ vlA h g' E 7 i 0 < 4294967296 := vlA_r (by omega)
  have hs2 := hst.2
  unfold ex_Main_codePlainStrip
  rw [q4, Option.bind_some, q1, Option.bind_some, q2, Option.bind_some, q5, Option.bind_some, q6, Option.bind_some, q3, Option.bind_some, hW]
  have e1 : ((lI (w : Int)).toInt32 + 7) / 8 = nI ((w + 7) / 8) := by
    rw [lI_i, ← nI_iI w, show nI w + 7 = nI (w + 7) from nI_add w 7, show nI (w + 7) / 8 = nI ((w + 7) / 8) from nI_div (b := 8) (by omega) (by omega)]
  have hp : 0 ≤ vN h g' E i * ((w + 7) / 8 : Nat) ∧ vN h g' E i * ((w + 7) / 8 : Nat) ≤ 20000 * 2000 := ⟨Int.mul_nonneg (by omega) (by omega), Int.mul_le_mul (by omega) (by omega) (by omega) (by omega)⟩
  have e2 : (iI (vN h g' E i)).toInt64 * (((lI (w : Int)).toInt32 + 7) / 8).toInt64 = lI (vN h g' E i * ((w + 7) / 8 : Nat)) := by
    rw [e1, iI_l (by omega), nI_lI (by omega), lI_mul]
  rw [e2, iI_l (z := vlA h g' E 7 i 0) (by omega)]
  by_cases q : vN h g' E i * ((w + 7) / 8 : Nat) ≤ vlA h g' E 7 i 0
  · rw [if_pos q, if_pos ((lcmp_le (by omega) (by omega)).mpr q)]
    have em : ((vN h g' E i).toNat : Int) = vN h g' E i := Int.toNat_of_nonneg (by omega)
    have ep : ((vlA h g' E 5 i 0).toNat : Int) = vlA h g' E 5 i 0 := Int.toNat_of_nonneg (by omega)
    have hb : (vlA h g' E 5 i 0).toNat + (vN h g' E i).toNat * ((w + 7) / 8) ≤ 65536 := by
      have : (((vN h g' E i).toNat * ((w + 7) / 8) : Nat) : Int) = vN h g' E i * ((w + 7) / 8 : Nat) := by rw [Int.natCast_mul, em]
      omega
    have hbL : (vlA h g' E 5 i 0).toNat + (vN h g' E i).toNat * ((w + 7) / 8) ≤ L := by
      have : (((vN h g' E i).toNat * ((w + 7) / 8) : Nat) : Int) = vN h g' E i * ((w + 7) / 8 : Nat) := by rw [Int.natCast_mul, em]
      omega
    obtain ⟨o', gl', ga', gb', h1, h2⟩ := ps_l (N := N) (t := tuA h g' E) (v := inA h g' E) (g := g) (of := of) (m := (vN h g' E i).toNat) (pl := (vlA h g' E 5 i 0).toNat) (by omega) hw hs (by omega) hb hg hbL (vN h g' E i).toNat 0 N oc gl ga gb up B (by omega) (by omega) hc
    rw [em, ep] at h1
    refine ⟨o', gl', ga', gb', ?_, h2⟩
    have h1' : lp_Main_codePlainStrip_76 N g of (iI (vN h g' E i)) (iI (vlA h g' E 5 i 0)) (lI (w : Int)) (nI (tuA h g' E).toNat) (nI (inA h g' E).toNat) N 0 oc gl ga gb = _ := h1
    rw [h1']; rfl
  · rw [if_neg q, if_neg (mt (lcmp_le (by omega) (by omega)).mp q)]
theorem of_m {N n p j : Nat} {o : ob_mPictures} {nu : Nat → Int64} {z : Int64} (hp : fd_mPictures_pages o = nI n) (hn : n ≤ 40) (h1 : p < n) (hj : j < 13) (hz : nu (13 * p + j) = z) : ex_mPictures_of N o nu (nI p) (nI j) = some (fs_mPictures_thrown o 0, z) := by
  unfold ex_mPictures_of
  have e1 : 13 * nI p + nI j = nI (13 * p + j) := by rw [show 13 * nI p = nI (13 * p) from nI_mul 13 p, nI_add]
  have c13 : ¬ (13 : Int32) ≤ nI j := nI_ge (b := 13) hj (by omega)
  rw [if_neg (nI_pos (by omega)), hp, if_neg (nI_ge (by omega) (by omega)), if_neg (nI_pos (by omega)), if_neg c13, e1, if_pos (dk_in_nI (by omega) (by omega)), nI_clamp (by omega), hz]
theorem wh_m {N n p i : Nat} {o : ob_mPictures} {nu : Nat → Int64} {fs sp sl : Nat → Int32} {S : Int} {sb : Nat} (hp : fd_mPictures_pages o = nI n) (hn : n ≤ 40) (h1 : p < n) (hS : nu (13 * p + 6) = lI S) (hS2 : 0 ≤ S ∧ S ≤ 20000) (hi : (i : Int) < S) (hf : fs p = nI sb) (hb : (sb : Int) + S ≤ 8192) :
    ex_mPictures_where N o nu sl fs sp (nI p) (nI i) 0 = some (fs_mPictures_thrown o 0, sp (sb + i)) ∧ ex_mPictures_where N o nu sl fs sp (nI p) (nI i) 1 = some (fs_mPictures_thrown o 0, sl (sb + i)) := by
  have e1 : 13 * nI p + 6 = nI (13 * p + 6) := by rw [show 13 * nI p = nI (13 * p) from nI_mul 13 p]; exact nI_add _ 6
  have is : ex_mPictures_isStrip N o nu (nI p) (nI i) = some 1 := by
    unfold ex_mPictures_isStrip
    rw [if_neg (nI_pos (by omega)), hp, if_neg (nI_ge (by omega) (by omega)), if_neg (nI_pos (by omega)), if_neg (nI_pos (by omega)), if_neg (nI_ge (by omega) (by omega)), e1, if_pos (dk_in_nI (by omega) (by omega)), nI_clamp (by omega), hS, nI_lI (by omega), if_neg (mt (lcmp_ge (by omega) (by omega)).mp (by omega))]
  have e2 : fs (nI p).toNatClampNeg + nI i = nI (sb + i) := by rw [nI_clamp (by omega), hf, nI_add]
  have d1 : dk_in (nI p) 41 := dk_in_nI (by omega) (by omega)
  have d2 : dk_in (nI (sb + i)) 8192 := dk_in_nI (by omega) (by omega)
  unfold ex_mPictures_where
  rw [is, Option.bind_some, e2]
  constructor
  · rw [if_neg (show ¬ (1 : Int32) = 0 by decide), if_pos rfl, if_pos rfl, if_pos d1, if_pos d2, nI_clamp (by omega)]
  · rw [Option.bind_some, if_neg (show ¬ (1 : Int32) = 0 by decide), if_neg (show ¬ (1 : Int32) = 0 by decide), if_pos rfl, if_neg (show ¬ (1 : Int32) = 0 by decide), if_pos d1, if_pos d2, nI_clamp (by omega)]
theorem jn_s {x : Nat} {gl : Nat → Int32} {v b : Bool} {rec_ : Int32 → (Nat → Int32) → ob_mLines → Option ((Nat → Int32) × ob_mLines)} {o : ob_mLines} (hx : x < 10000) : jn_Ref_strip_273r17 (nI v.toNat) (nI x) gl rec_ (nI b.toNat) o = rec_ (nI (x + 1)) (upd gl x (nI (b ^^ v).toNat)) o := by
  unfold jn_Ref_strip_273r17 jn_Ref_strip_296s18
  have d : dk_in (nI x) 10000 := dk_in_nI hx (by omega)
  rw [if_pos d, if_pos d, dk_let, dk_let, nI_clamp (by omega), show nI x + 1 = nI (x + 1) from nI_add x 1]
  cases v <;> cases b <;> rfl
theorem ds_push {x : Nat} {gl : Nat → Int32} {p : Nat → Bool} (h : dots x gl p) : dots (x + 1) (upd gl x (nI (p x).toNat)) p := by
  intro y hy
  by_cases e : y = x
  · subst e; rw [pk_us]
  · rw [pk_un e]; exact h y (by omega)
theorem dl_k {N w : Nat} {g ra : Nat → Int32} {v : Bool} {up : Nat → Bool} {o : ob_mLines} (hw : w ≤ 10000) (hra : dots w ra up) : ∀ (r x f : Nat) (gl : Nat → Int32), x + r = w → r < f → dots x gl (fun x => up x ^^ v) → ∃ gl', lp_Ref_strip_233q16 N g (nI w) 0 (nI v.toNat) ra f (nI x) gl o = some (gl', o) ∧ dots w gl' (fun x => up x ^^ v) := by
  intro r
  induction r with
  | zero =>
    intro x f gl hx hf hd
    obtain ⟨f, rfl⟩ : ∃ z, f = z + 1 := ⟨f - 1, by omega⟩
    refine ⟨gl, ?_, by rw [← show x = w by omega]; exact hd⟩
    unfold lp_Ref_strip_233q16
    rw [if_pos ((nI_leI (by omega) (by omega)).mpr (by omega))]
  | succ r ih =>
    intro x f gl hx hf hd
    obtain ⟨f, rfl⟩ : ∃ z, f = z + 1 := ⟨f - 1, by omega⟩
    unfold lp_Ref_strip_233q16
    rw [if_neg (nI_ge (by omega) (by omega)), if_pos rfl, if_pos (dk_in_nI (by omega) (by omega)), nI_clamp (by omega), hra x (by omega), jn_s (by omega)]
    exact ih (x + 1) f _ (by omega) (by omega) (ds_push (p := fun x => up x ^^ v) hd)
theorem dl_p {N w pl nb i0 fa : Nat} {b : Int64} {t v : Bool} {en tu : Int32} {g ra : Nat → Int32} (hw : w ≤ 10000) (hp : pl + (i0 + w + 7) / 8 ≤ 65536) (hi : i0 + w < 2 ^ 20) : ∀ (r x f : Nat) (gl : Nat → Int32), x + r = w → r < f → dots x gl (fun x => sbit t g pl (i0 + x) ^^ v) → ∃ gl', lp_Ref_strip_233q16 N g (nI w) 1 (nI v.toNat) ra f (nI x) gl (rL w b pl nb t (i0 + x) fa en tu) = some (gl', rL w b pl nb t (i0 + w) fa en tu) ∧ dots w gl' (fun x => sbit t g pl (i0 + x) ^^ v) := by
  intro r
  induction r with
  | zero =>
    intro x f gl hx hf hd
    obtain ⟨f, rfl⟩ : ∃ z, f = z + 1 := ⟨f - 1, by omega⟩
    have e : x = w := by omega
    refine ⟨gl, ?_, by rw [← e]; exact hd⟩
    unfold lp_Ref_strip_233q16
    rw [if_pos ((nI_leI (by omega) (by omega)).mpr (by omega)), e]
  | succ r ih =>
    intro x f gl hx hf hd
    obtain ⟨f, rfl⟩ : ∃ z, f = z + 1 := ⟨f - 1, by omega⟩
    unfold lp_Ref_strip_233q16
    rw [if_neg (nI_ge (by omega) (by omega)), if_neg (show ¬ (1 : Int32) = 0 by decide), ml_next (by omega) (by omega), Option.bind_some]
    have key : ∀ q : Bool, (if nI q.toNat = 1 then jn_Ref_strip_273r17 (nI v.toNat) (nI x) gl (lp_Ref_strip_233q16 N g (nI w) 1 (nI v.toNat) ra f) 1 (rL w b pl nb t (i0 + x + 1) fa en tu) else jn_Ref_strip_273r17 (nI v.toNat) (nI x) gl (lp_Ref_strip_233q16 N g (nI w) 1 (nI v.toNat) ra f) 0 (rL w b pl nb t (i0 + x + 1) fa en tu)) = jn_Ref_strip_273r17 (nI v.toNat) (nI x) gl (lp_Ref_strip_233q16 N g (nI w) 1 (nI v.toNat) ra f) (nI q.toNat) (rL w b pl nb t (i0 + x + 1) fa en tu) := by
      intro q; cases q
      · rw [if_neg (show ¬ nI false.toNat = 1 by decide)]; rfl
      · rw [if_pos (show nI true.toNat = 1 by decide)]; rfl
    rw [key, jn_s (by omega)]
    exact ih (x + 1) f _ (by omega) (by omega) (ds_push (p := fun x => sbit t g pl (i0 + x) ^^ v) hd)
theorem sbit_row (t : Bool) (g : Nat → Int32) (pl ac l x : Nat) : sbit t g pl (8 * ac * l + x) = sbit t g (pl + l * ac) x := by
  unfold sbit
  have e1 : (8 * ac * l + x) / 8 = l * ac + x / 8 := by rw [Nat.mul_assoc, Nat.mul_add_div (by omega), Nat.mul_comm ac l]
  have e2 : (8 * ac * l + x) % 8 = x % 8 := by rw [Nat.mul_assoc, Nat.mul_add_mod]
  rw [e1, e2, ← Nat.add_assoc]
theorem len_k {b c K r X : Nat} (h : b + K * (r + 1) < X) (hc : c ≤ K) : b + c + K * r < X := by
  rw [Nat.mul_succ] at h; omega
theorem len_a {b w r : Nat} (hw : w ≤ 10000) (h : b + 10001000 * (r + 1) < 2 ^ 60) : b + 1000 * (w + 1) + 1000 < 2 ^ 62 := by
  have h2 : b < 2 ^ 60 := Nat.lt_of_le_of_lt (Nat.le_add_right _ _) h
  clear h; omega
theorem len_b {b c w r : Nat} (hw : w ≤ 10000) (h : b + 10001000 * (r + 1) < 2 ^ 60) (hc : c ≤ 1000 * (w + 1)) : b + c + 10001000 * r < 2 ^ 60 :=
  len_k h (Nat.le_trans hc (Nat.mul_le_mul_left 1000 (show w + 1 ≤ 10001 by omega)))
theorem mp_l {N w m pl nb no : Nat} {t v : Bool} {g wr br wb bb bl md : Nat → Int32} {or : ob_Ref} {u15 : rs_mPictures_of} {tu : Int32} (hT : mTab wr br wb bb bl md) (hN : 20000 < N) (hw : w ≤ 10000) (hno : no < 100000) (hm : m ≤ 20000) (hpl : pl + m * ((w + 7) / 8) ≤ 65536) :
    ∀ (r l f i : Nat) (rl gl ga out ra : Nat → Int32) (up : Nat → Bool) (B : List Bool), l + r = m → r < f → dots w ga up → mB no B out → B.length + 10001000 * r < 2 ^ 60 →
      ∃ gl' ga' out' i', lp_Ref_strip_148n13 N or g wr br wb bb bl md no (nI w) (nI m) 1 u15 (nI v.toNat) f (nI l) rl gl ga out (rL w (lN B.length) pl nb t i 0 0 tu) ra = some (Sum.inl (rl, gl', ga', out', rL w (lN (linesB w ((List.range' l r).map (plL t v g pl ((w + 7) / 8))) up B).length) pl nb t i' 0 0 tu, ra)) ∧ dots w ga' (lastU ((List.range' l r).map (plL t v g pl ((w + 7) / 8))) up) ∧ mB no (linesB w ((List.range' l r).map (plL t v g pl ((w + 7) / 8))) up B) out' := by
  intro r
  induction r with
  | zero =>
    intro l f i rl gl ga out ra up B hl hf hd hB hlen
    obtain ⟨f, rfl⟩ : ∃ z, f = z + 1 := ⟨f - 1, by omega⟩
    refine ⟨gl, ga, out, i, ?_, hd, hB⟩
    unfold lp_Ref_strip_148n13
    rw [if_pos ((nI_leI (by omega) (by omega)).mpr (by omega))]
    rfl
  | succ r ih =>
    intro l f i rl gl ga out ra up B hl hf hd hB hlen
    obtain ⟨f, rfl⟩ : ∃ z, f = z + 1 := ⟨f - 1, by omega⟩
    have hmul : l * ((w + 7) / 8) + (w + 7) / 8 ≤ m * ((w + 7) / 8) := by
      rw [← Nat.succ_mul]; exact Nat.mul_le_mul_right _ (by omega)
    have e8 : 8 * ((w + 7) / 8) * l = 8 * (l * ((w + 7) / 8)) := by rw [Nat.mul_assoc, Nat.mul_comm ((w + 7) / 8) l]
    have e1 : 8 * ((nI w + 7) / 8) * nI l = nI (8 * ((w + 7) / 8) * l) := by
      rw [show nI w + 7 = nI (w + 7) from nI_add w 7, show nI (w + 7) / 8 = nI ((w + 7) / 8) from nI_div (b := 8) (by omega) (by omega), show (8 : Int32) = nI 8 from rfl, nI_mul, nI_mul]
    have hd8 : (8 * (l * ((w + 7) / 8)) + w + 7) / 8 = l * ((w + 7) / 8) + (w + 7) / 8 := by
      rw [Nat.add_assoc, Nat.mul_add_div (by omega)]
    obtain ⟨gl', h1, h2⟩ := dl_p (N := N) (nb := nb) (fa := 0) (b := lN B.length) (t := t) (v := v) (en := 0) (tu := tu) (g := g) (ra := ra) (pl := pl) (i0 := 8 * ((w + 7) / 8) * l) hw (by rw [e8, hd8]; omega) (by rw [e8]; omega) w 0 N gl (by omega) (by omega) (fun y hy => absurd hy (by omega))
    have hrow : (fun x => sbit t g pl (8 * ((w + 7) / 8) * l + x) ^^ v) = plL t v g pl ((w + 7) / 8) l := by
      funext x; show (sbit t g pl (8 * ((w + 7) / 8) * l + x) ^^ v) = (sbit t g (pl + l * ((w + 7) / 8)) x ^^ v); rw [sbit_row]
    rw [hrow] at h2
    have hlen2 : B.length + 1000 * (w + 1) + 1000 < 2 ^ 62 := len_a hw hlen
    have hcl := codeL_length w up (plL t v g pl ((w + 7) / 8) l) hw (w + 1) 0 false
    obtain ⟨ga2, out2, h3, h4, h5⟩ := sm_code (N := N) (B := B) (r := (nI pl, nI nb, nI t.toNat, nI (8 * ((w + 7) / 8) * l + w), nI 0, 0, tu)) hT hN hw hno h2 hd hlen2 hB
    obtain ⟨gl3, ga3, out3, i3, h6, h7, h8⟩ := ih (l + 1) f (8 * ((w + 7) / 8) * l + w) rl gl' ga2 out2 ra _ _ (by omega) (by omega) h4 h5 (by rw [List.length_append]; exact len_b hw hlen hcl)
    refine ⟨gl3, ga3, out3, i3, ?_, ?_, ?_⟩
    · unfold lp_Ref_strip_148n13
      rw [if_neg (nI_ge (by omega) (by omega)), if_neg (show ¬ (1 : Int32) = 0 by decide)]
      unfold jn_Ref_strip_200o14
      rw [if_neg (show ¬ (1 : Int32) = 0 by decide)]
      unfold jn_Ref_strip_227p15
      rw [e1]
      have h1' : lp_Ref_strip_233q16 N g (nI w) 1 (nI v.toNat) ra N 0 gl (fs_mLines_at (rL w (lN B.length) pl nb t i 0 0 tu) (nI (8 * ((w + 7) / 8) * l))) = some (gl', rL w (lN B.length) pl nb t (8 * ((w + 7) / 8) * l + w) 0 0 tu) := h1
      rw [h1', Option.bind_some]
      have h3' : ex_mLines_code N (rL w (lN B.length) pl nb t (8 * ((w + 7) / 8) * l + w) 0 0 tu) gl' ga md no out wr br wb bb bl = _ := h3
      rw [h3', Option.bind_some, show nI l + 1 = nI (l + 1) from nI_add l 1, List.range'_succ]
      exact h6
    · rw [List.range'_succ]; exact h7
    · rw [List.range'_succ]; exact h8
def pkA (bit : Nat → Bool) (nb w : Nat) (v : Bool) : Nat → Nat → (Nat → Bool) → Nat × List (Nat → Bool)
  | 0, _, _ => (0, [])
  | r + 1, i, up => if (lineA bit nb w up i).2.1 = 0 then ((pkA bit nb w v r (lineA bit nb w up i).1 (lineA bit nb w up i).2.2).1, (fun x => (lineA bit nb w up i).2.2 x ^^ v) :: (pkA bit nb w v r (lineA bit nb w up i).1 (lineA bit nb w up i).2.2).2) else ((lineA bit nb w up i).2.1, [])
theorem pk_c {N w s P m pl nB : Nat} {t v : Bool} {g tr g0 : Nat → Int32} {of : ob_OutFile} (hN : 20000 < N) (hw : w ≤ 10000) (hw1 : 1 ≤ w) (hs : s < 100000) (hm : m ≤ 20000) (hpl : pl + nB ≤ 65536) (htr : agree 1024 tr trT) (hb : ∀ up i, i ≤ 8 * nB → (lineA (sbit t g pl) (8 * nB) w up i).1 ≤ 8 * nB ∧ (lineA (sbit t g pl) (8 * nB) w up i).2.1 ≤ 7) :
    ∀ (r l f i ac lc w0 : Nat) (nd a co ov ru : Int32) (gA gL : Nat → Int32) (cl : Nat → Nat) (rup : Nat → Bool) (o : ob_Coder) (gl ga gb : Nat → Int32) (up : Nat → Bool) (B : List Bool), l + r = m → r < f → i ≤ 8 * nB → chA lc gL cl → isCh w lc cl rup → cLn w s P up B o ga gb g0 →
      ∃ gA' gL' o' gl' ga' gb' or', lp_Main_codePackedStrip_64 N g tr of (nI m) (lI (w : Int)) (nI v.toNat) f (nI l) gA gL o gl ga gb (cL nd (8 * pl + i) (8 * (pl + nB)) t ac lc w0 a co ov ru) = some (if (pkA (sbit t g pl) (8 * nB) w v r i rup).1 = 0 then Sum.inl (gA', gL', o', gl', ga', gb', or') else Sum.inr (or', gA', gL', o', gl', ga', gb', nI (10 + (pkA (sbit t g pl) (8 * nB) w v r i rup).1))) ∧ cLn w s P (lastU (pkA (sbit t g pl) (8 * nB) w v r i rup).2 up) (linesB w (pkA (sbit t g pl) (8 * nB) w v r i rup).2 up B) o' ga' gb' g0 := by
  intro r
  induction r with
  | zero =>
    intro l f i ac lc w0 nd a co ov ru gA gL cl rup o gl ga gb up B hl hf hi hgl hup hc
    obtain ⟨f, rfl⟩ : ∃ z, f = z + 1 := ⟨f - 1, by omega⟩
    refine ⟨gA, gL, o, gl, ga, gb, cL nd (8 * pl + i) (8 * (pl + nB)) t ac lc w0 a co ov ru, ?_, hc⟩
    unfold lp_Main_codePackedStrip_64 pkA
    rw [if_pos ((nI_leI (by omega) (by omega)).mpr (by omega)), if_pos rfl]
  | succ r ih =>
    intro l f i ac lc w0 nd a co ov ru gA gL cl rup o gl ga gb up B hl hf hi hgl hup hc
    obtain ⟨f, rfl⟩ : ∃ z, f = z + 1 := ⟨f - 1, by omega⟩
    obtain ⟨or1, gl1, h1, h2⟩ := lr_read (N := N) (nB0 := 65536) (ac := ac) (w0 := w0) (t := t) (nd := nd) (a := a) (co := co) (ov := ov) (ru := ru) (g := g) (gA := gA) hN hw hpl (Nat.le_refl _) rfl htr hi hgl hup
    have hb1 := hb rup i hi
    unfold lp_Main_codePackedStrip_64
    rw [if_neg (nI_ge (by omega) (by omega)), show (lI (w : Int)).toInt32 = nI w from lI_i _, h1, Option.bind_some]
    unfold pkA
    by_cases q : (lineA (sbit t g pl) (8 * nB) w rup i).2.1 = 0
    · obtain ⟨lc', cl', a', co', ov', ru', ho, hg, hc2⟩ := h2 q
      obtain ⟨wd, ca, cb, cc, cd, ce, cf, ci⟩ := o
      have hwd : wd = nI w := hc.1
      subst hwd
      have hlc := isCh_le hc2
      obtain ⟨n2, ch2, g2, h3, h4, h5⟩ := tc_take (N := N) (nv := 10000) (gl := gl) (v := v) (a := ca) (b := cb) (c := cc) (d := cd) (e := ce) (f := cf) (i := ci) hN hw hw1 (by omega) (by omega) hg hc2
      obtain ⟨o2, ga2, gl2, gb2, h6, h7⟩ := sm_codeLine (of := of) hN hw hs (cLn_lc (nI n2) hc) (fun _ => ⟨rfl, by have := isCh_le h4; omega, h5, h4⟩)
      obtain ⟨gA', gL', o', gl', ga', gb', or', h8, h9⟩ := ih (l + 1) f (lineA (sbit t g pl) (8 * nB) w rup i).1 lc lc' w nd a' co' ov' ru' gL gl1 cl' _ o2 gl2 ga2 gb2 _ _ (by omega) (by omega) hb1.1 hg hc2 h7
      refine ⟨gA', gL', o', gl', ga', gb', or', ?_, ?_⟩
      · rw [ho]
        simp only [q, if_true]
        rw [if_pos (show nI 0 = 0 from rfl)]
        have h3' : ex_Coder_takeChanges N (nI w, ca, cb, cc, cd, ce, cf, ci) 10000 gl1 gl (fd_LineReader_lineCount (cL nd (8 * pl + (lineA (sbit t g pl) (8 * nB) w rup i).1) (8 * (pl + nB)) t lc lc' w a' co' ov' ru')) (nI v.toNat) = _ := h3
        rw [h3', Option.bind_some, h6, Option.bind_some, show nI l + 1 = nI (l + 1) from nI_add l 1]
        exact h8
      · simp only [q, if_true]
        exact h9
    · refine ⟨gL, gl1, o, gl, ga, gb, or1, ?_, ?_⟩
      · have hne : ¬ nI (lineA (sbit t g pl) (8 * nB) w rup i).2.1 = 0 := mt (nI_eq0 (by omega)).mp q
        simp only [q, if_false]
        rw [if_neg hne, show 10 + nI (lineA (sbit t g pl) (8 * nB) w rup i).2.1 = nI (10 + (lineA (sbit t g pl) (8 * nB) w rup i).2.1) from nI_add 10 _]
      · simp only [q, if_false]
        exact hc
theorem pk_m {N w m pl nB no : Nat} {t v : Bool} {g wr br wb bb bl md : Nat → Int32} {or : ob_Ref} {u15 : rs_mPictures_of} (hT : mTab wr br wb bb bl md) (hR : rdT wr br wb bb bl md) (hN : 20000 < N) (hw : w ≤ 10000) (hno : no < 100000) (hm : m ≤ 20000) (hpl : pl + nB ≤ 65536) (hb : ∀ up i, i ≤ 8 * nB → (lineA (sbit t g pl) (8 * nB) w up i).1 ≤ 8 * nB ∧ (lineA (sbit t g pl) (8 * nB) w up i).2.1 ≤ 7) :
    ∀ (r l f i : Nat) (tu : Int32) (rl gl ga out ra : Nat → Int32) (rup up : Nat → Bool) (B : List Bool), l + r = m → r < f → i ≤ 8 * nB → dots w ra rup → dots w ga up → mB no B out → B.length + 10001000 * r < 2 ^ 60 →
      ∃ rl' gl' ga' out' o' ra', lp_Ref_strip_148n13 N or g wr br wb bb bl md no (nI w) (nI m) 0 u15 (nI v.toNat) f (nI l) rl gl ga out (rL w (lN B.length) pl nB t i 0 0 tu) ra = some (if (pkA (sbit t g pl) (8 * nB) w v r i rup).1 = 0 then Sum.inl (rl', gl', ga', out', o', ra') else Sum.inr (fs_Ref_fault or (nI (10 + (pkA (sbit t g pl) (8 * nB) w v r i rup).1)), u15.1, o', ra', rl', gl', ga', out')) ∧ dots w ga' (lastU (pkA (sbit t g pl) (8 * nB) w v r i rup).2 up) ∧ mB no (linesB w (pkA (sbit t g pl) (8 * nB) w v r i rup).2 up B) out' ∧ (∃ i' f' en' tu', o' = rL w (lN (linesB w (pkA (sbit t g pl) (8 * nB) w v r i rup).2 up B).length) pl nB t i' f' en' tu') := by
  intro r
  induction r with
  | zero =>
    intro l f i tu rl gl ga out ra rup up B hl hf hi hra hd hB hlen
    obtain ⟨f, rfl⟩ : ∃ z, f = z + 1 := ⟨f - 1, by omega⟩
    refine ⟨rl, gl, ga, out, rL w (lN B.length) pl nB t i 0 0 tu, ra, ?_, hd, hB, i, 0, 0, tu, rfl⟩
    unfold lp_Ref_strip_148n13 pkA
    rw [if_pos ((nI_leI (by omega) (by omega)).mpr (by omega)), if_pos rfl]
  | succ r ih =>
    intro l f i tu rl gl ga out ra rup up B hl hf hi hra hd hB hlen
    obtain ⟨f, rfl⟩ : ∃ z, f = z + 1 := ⟨f - 1, by omega⟩
    have hb1 := hb rup i hi
    obtain ⟨tu1, rl1, ra1, h1, h2, h3⟩ := ml_read (N := N) (b := lN B.length) (t := t) (tu := tu) (g := g) (gl := rl) hN hw hpl hR hra hi
    unfold lp_Ref_strip_148n13
    rw [if_neg (nI_ge (by omega) (by omega)), if_pos rfl, h1, Option.bind_some]
    unfold pkA
    by_cases q : (lineA (sbit t g pl) (8 * nB) w rup i).2.1 = 0
    · have hra1 := h2 q
      simp only [q, if_true, show ¬ (0 : Nat) = 7 by decide, if_false]
      rw [if_neg (show ¬ (1 : Int32) = 0 by decide)]
      unfold jn_Ref_strip_200o14
      rw [if_pos rfl]
      unfold jn_Ref_strip_227p15
      obtain ⟨gl2, h4, h5⟩ := dl_k (N := N) (g := g) (v := v) (o := rL w (lN B.length) pl nB t (lineA (sbit t g pl) (8 * nB) w rup i).1 0 0 tu1) hw hra1 w 0 N gl (by omega) (by omega) (fun y hy => absurd hy (by omega))
      have h4' : lp_Ref_strip_233q16 N g (nI w) 0 (nI v.toNat) ra1 N 0 gl (fs_mLines_at (rL w (lN B.length) pl nB t (lineA (sbit t g pl) (8 * nB) w rup i).1 0 0 tu1) (fd_mLines_at (rL w (lN B.length) pl nB t (lineA (sbit t g pl) (8 * nB) w rup i).1 0 0 tu1))) = some (gl2, rL w (lN B.length) pl nB t (lineA (sbit t g pl) (8 * nB) w rup i).1 0 0 tu1) := h4
      rw [h4', Option.bind_some]
      have hcl := codeL_length w up (fun x => (lineA (sbit t g pl) (8 * nB) w rup i).2.2 x ^^ v) hw (w + 1) 0 false
      obtain ⟨ga2, out2, h6, h7, h8⟩ := sm_code (N := N) (B := B) (r := (nI pl, nI nB, nI t.toNat, nI (lineA (sbit t g pl) (8 * nB) w rup i).1, nI 0, 0, tu1)) hT hN hw hno h5 hd (len_a hw hlen) hB
      have h6' : ex_mLines_code N (rL w (lN B.length) pl nB t (lineA (sbit t g pl) (8 * nB) w rup i).1 0 0 tu1) gl2 ga md no out wr br wb bb bl = _ := h6
      rw [h6', Option.bind_some, show nI l + 1 = nI (l + 1) from nI_add l 1]
      exact ih (l + 1) f (lineA (sbit t g pl) (8 * nB) w rup i).1 tu1 rl1 gl2 ga2 out2 ra1 _ _ _ (by omega) (by omega) hb1.1 hra1 h7 h8 (by rw [List.length_append]; exact len_b hw hlen hcl)
    · simp only [q, if_false]
      rw [if_true]
      by_cases q7 : (lineA (sbit t g pl) (8 * nB) w rup i).2.1 = 7
      · simp only [q7, if_true]
        have hle : fd_mLines_fault (rL w (lN B.length) pl nB t (lineA (sbit t g pl) (8 * nB) w rup i).1 0 1 tu1) ≤ 0 := by show nI 0 ≤ 0; decide
        rw [if_pos hle]
        exact ⟨rl1, gl, ga, out, _, ra1, rfl, hd, hB, _, _, _, _, rfl⟩
      · simp only [q7, if_false]
        have hle : ¬ fd_mLines_fault (rL w (lN B.length) pl nB t (lineA (sbit t g pl) (8 * nB) w rup i).1 (lineA (sbit t g pl) (8 * nB) w rup i).2.1 0 tu1) ≤ 0 := by
          show ¬ nI (lineA (sbit t g pl) (8 * nB) w rup i).2.1 ≤ 0
          exact mt (nI_leI (b := 0) (by omega) (by omega)).mp (by omega)
        rw [if_neg hle]
        have e10 : 10 + fd_mLines_fault (rL w (lN B.length) pl nB t (lineA (sbit t g pl) (8 * nB) w rup i).1 (lineA (sbit t g pl) (8 * nB) w rup i).2.1 0 tu1) = nI (10 + (lineA (sbit t g pl) (8 * nB) w rup i).2.1) := nI_add 10 _
        rw [e10]
        exact ⟨rl1, gl, ga, out, _, ra1, rfl, hd, hB, _, _, _, _, rfl⟩
theorem ln_b {bit : Nat → Bool} {nb w : Nat} {up : Nat → Bool} {i : Nat} (hi : i ≤ nb) : (lineA bit nb w up i).1 ≤ nb ∧ (lineA bit nb w up i).2.1 ≤ 7 := lnA_b _ _ _ _ _ hi
def stL (h : Bool) (g : Nat → Int32) (E : Nat → Option Nat) (w i : Nat) : Nat × List (Nat → Bool) := pkA (sbit (tuA h g E) g (vlA h g E 5 i 0).toNat) (8 * (vlA h g E 7 i 0).toNat) w (inA h g E) (vN h g E i).toNat 0 (fun _ => false)
theorem lr_beg {N pl n w0 : Nat} {t : Bool} {o : ob_LineReader} {g : Nat → Int32} (hb : pl + n ≤ 65536) (hw0 : fd_LineReader_width o = nI w0) : ex_LineReader_begin N o 65536 g (nI pl) (nI n) (nI t.toNat) = some (cL (fd_LineReader_nodes o) (8 * pl + 0) (8 * (pl + n)) t 0 0 w0 (fd_LineReader_a o) (fd_LineReader_colour o) (fd_LineReader_over o) (fd_LineReader_run o)) := by
  unfold ex_LineReader_begin
  have hdk : dk_bool (nI t.toNat) := by cases t <;> decide
  rw [if_pos hdk]
  have e1 : (if (8 * nI 65536) < (8 * (nI pl + nI n)) then (8 * nI 65536) else (8 * (nI pl + nI n))) = nI (8 * (pl + n)) := by
    rw [nI_add, show (8 : Int32) * nI (pl + n) = nI (8 * (pl + n)) from nI_mul 8 (pl + n), show (8 : Int32) * nI 65536 = nI (8 * 65536) from nI_mul 8 65536, if_neg (nI_nlt (by omega) (by omega))]
  have e2 : (8 : Int32) * (if (0 : Int32) < nI pl then nI pl else 0) = nI (8 * pl + 0) := by
    by_cases q : 0 < pl
    · rw [if_pos (show (0 : Int32) < nI pl from nI_lt (a := 0) q (by omega))]; exact nI_mul 8 pl
    · rw [if_neg (show ¬ (0 : Int32) < nI pl from nI_nlt (a := 0) (by omega) (by omega)), show pl = 0 by omega]; rfl
  rw [e1, e2]
  unfold dk_let cL
  rw [← hw0]; rfl
theorem pk_s {N L s P i w : Nat} {o : ob_PictureFile} {om : ob_Main} {or : ob_LineReader} {g g' ty ct pp g0 gl ga gb tr gA gL : Nat → Int32} {h : Bool} {E : Nat → Option Nat} {oc : ob_Coder} {of : ob_OutFile} {up : Nat → Bool} {B : List Bool} (hN : 65550 ≤ N) (ho : o.1 = nI L) (hh : o.2.1 = orI h) (hL : L ≤ 65536) (hg : agree L g g') (hC : enC h g' L E ty ct pp) (hG : enG h g' L E) (hn : nbA h g' E) (h5 : cnA h g' E 5 = vS h g' E) (h7 : cnA h g' E 7 = vS h g' E) (hi : (i : Int) < vS h g' E) (hst : stA h g' L E i) (hbit : pkA (sbit (tuA h g' E) g (vlA h g' E 5 i 0).toNat) (8 * (vlA h g' E 7 i 0).toNat) w (inA h g' E) (vN h g' E i).toNat 0 (fun _ => false) = stL h g' E w i) (hW : vlA h g' E 0 0 0 = (w : Int)) (hw : w ≤ 10000) (hw1 : 1 ≤ w) (hs : s < 100000) (htr : agree 1024 tr trT) (hw0 : ∃ w0, fd_LineReader_width or = nI w0) (hc : cLn w s P up B oc ga gb g0) :
    ∃ or' gA' gL' oc' gl' ga' gb', ex_Main_codePackedStrip N om o g 11 ty 11 ct 11 pp or tr gA gL oc gl of ga gb (nI i) = some (or', gA', gL', oc', gl', ga', gb', if (stL h g' E w i).1 = 0 then 0 else nI (10 + (stL h g' E w i).1)) ∧ cLn w s P (lastU (stL h g' E w i).2 up) (linesB w (stL h g' E w i).2 up B) oc' ga' gb' g0 := by
  obtain ⟨q1, q2, q3⟩ := ge_c (i := i) (by omega : 12 ≤ N) ho hh hL hg (Nat.le_refl _) hC hG hn h5 h7 hi
  obtain ⟨q4, _, q5, q6, _⟩ := gf_c (by omega : 12 ≤ N) ho hh hL hg (Nat.le_refl _) hC hG hn
  have rN := vN_r hn hi
  have r5 : 0 ≤ vlA h g' E 5 i 0 ∧ vlA h g' E 5 i 0 < 4294967296 := vlA_r (by omega)
  have r7 : 0 ≤ vlA h g' E 7 i 0 ∧ vlA h g' E 7 i 0 < 4294967296 := vlA_r (by omega)
  have hs2 := hst.2
  obtain ⟨w0, hw0⟩ := hw0
  unfold ex_Main_codePackedStrip
  rw [q4, Option.bind_some, q1, Option.bind_some, q5, Option.bind_some, q2, Option.bind_some, q3, Option.bind_some, q6, Option.bind_some, hW, iI_nat r5.1, iI_nat r7.1, iI_nat (show 0 ≤ vN h g' E i by omega), lr_beg (by omega) hw0, Option.bind_some]
  obtain ⟨gA', gL', o', gl', ga', gb', or', h1, h2⟩ := pk_c (N := N) (of := of) (v := inA h g' E) (g := g) (tr := tr) (t := tuA h g' E) (pl := (vlA h g' E 5 i 0).toNat) (nB := (vlA h g' E 7 i 0).toNat) (m := (vN h g' E i).toNat) (by omega) hw hw1 hs (by omega) (by omega) htr (fun up i hi => ln_b hi) (vN h g' E i).toNat 0 N 0 0 0 w0 (fd_LineReader_nodes or) (fd_LineReader_a or) (fd_LineReader_colour or) (fd_LineReader_over or) (fd_LineReader_run or) gA gL (fun _ => 0) (fun _ => false) oc gl ga gb up B (by omega) (by omega) (by omega) (fun j hj => absurd hj (by omega)) (isCh_white w) hc
  rw [hbit] at h1 h2
  refine ⟨or', gA', gL', o', gl', ga', gb', ?_, h2⟩
  have h1' : lp_Main_codePackedStrip_64 N g tr of (nI (vN h g' E i).toNat) (lI (w : Int)) (nI (inA h g' E).toNat) N 0 gA gL oc gl ga gb (cL (fd_LineReader_nodes or) (8 * (vlA h g' E 5 i 0).toNat + 0) (8 * ((vlA h g' E 5 i 0).toNat + (vlA h g' E 7 i 0).toNat)) (tuA h g' E) 0 0 w0 (fd_LineReader_a or) (fd_LineReader_colour or) (fd_LineReader_over or) (fd_LineReader_run or)) = some (if (stL h g' E w i).1 = 0 then Sum.inl (gA', gL', o', gl', ga', gb', or') else Sum.inr (or', gA', gL', o', gl', ga', gb', nI (10 + (stL h g' E w i).1))) := h1
  rw [h1']
  by_cases q : (stL h g' E w i).1 = 0
  · simp only [q, if_true]; rfl
  · simp only [q, if_false]; rfl
def stZ (h : Bool) (g : Nat → Int32) (E : Nat → Option Nat) (w i : Nat) : Nat × List (Nat → Bool) := if vlA h g E 2 0 1 = 1 then (if vN h g E i * ((w + 7) / 8 : Nat) ≤ vlA h g E 7 i 0 then (0, (List.range' 0 (vN h g E i).toNat).map (plL (tuA h g E) (inA h g E) g (vlA h g E 5 i 0).toNat ((w + 7) / 8))) else (18, [])) else (if (stL h g E w i).1 = 0 then 0 else 10 + (stL h g E w i).1, (stL h g E w i).2)
theorem sr_m {N L n p i w sb no : Nat} {or : ob_Ref} {op : ob_mPictures} {ol : ob_mLines} {nu : Nat → Int64} {fs sp sl g ra wr br wb bb bl md rl gl ga out : Nat → Int32} {h : Bool} {E : Nat → Option Nat} {up : Nat → Bool} {B : List Bool} (hN : 65550 ≤ N) (hT : mTab wr br wb bb bl md) (hR : rdT wr br wb bb bl md) (hno : no < 100000) (hL : L ≤ 65536) (hG : enG h g L E) (hn : nbA h g E) (hp : fd_mPictures_pages op = nI n) (hn40 : n ≤ 40) (hpn : p < n) (hnu : ∀ j, j < 12 → nu (13 * p + j) = lI (nuA h g E j)) (hf : fs p = nI sb) (h8 : (sb : Int) + vS h g E ≤ 8192) (hi : (i : Int) < vS h g E) (hst : stA h g L E i) (hsp : sp (sb + i) = iI (vlA h g E 5 i 0)) (hsl : sl (sb + i) = iI (vlA h g E 7 i 0)) (hw : w ≤ 10000) (hb : fd_mLines_bits ol = lN B.length) (hlen : B.length + 10001000 * (vN h g E i).toNat < 2 ^ 60) (hd : dots w ga up) (hB : mB no B out) :
    ∃ op' ol' ra' rl' gl' ga' out', ex_Ref_strip N or op nu fs sp sl ol g ra wr br wb bb bl md rl gl ga no out (nI p) (nI i) (nI w) (iI (vN h g E i)) = some (if (stZ h g E w i).1 = 0 then or else fs_Ref_fault or (nI (stZ h g E w i).1), op', ol', ra', rl', gl', ga', out') ∧ op' = fs_mPictures_thrown op 0 ∧ dots w ga' (lastU (stZ h g E w i).2 up) ∧ mB no (linesB w (stZ h g E w i).2 up B) out' ∧ fd_mLines_bits ol' = lN (linesB w (stZ h g E w i).2 up B).length ∧ ((stZ h g E w i).1 = 0 → fd_mLines_width ol' = nI w) := by
  have rS := vS_r hn
  have rN := vN_r hn hi
  have r5 : 0 ≤ vlA h g E 5 i 0 ∧ vlA h g E 5 i 0 < 4294967296 := vlA_r (by omega)
  have r7 : 0 ≤ vlA h g E 7 i 0 ∧ vlA h g E 7 i 0 < 4294967296 := vlA_r (by omega)
  have r2 := vC_r (c := 2) (m := 1) hG (by omega) (by omega)
  have r3 := vC_r (c := 3) (m := 0) hG (by omega) (by omega)
  have r4 := vC_r (c := 4) (m := 1) hG (by omega) (by omega)
  have hs2 := hst.2
  have hS6 : nu (13 * p + 6) = lI (vS h g E) := hnu 6 (by omega)
  obtain ⟨w1, _⟩ := wh_m (N := N) (sp := sp) (sl := sl) (o := op) hp hn40 hpn hS6 rS hi hf h8
  obtain ⟨_, w2⟩ := wh_m (N := N) (sp := sp) (sl := sl) (o := fs_mPictures_thrown op 0) hp hn40 hpn hS6 rS hi hf h8
  have o4 : ex_mPictures_of N (fs_mPictures_thrown op 0) nu (nI p) 4 = some (fs_mPictures_thrown op 0, lI (vlA h g E 4 0 1)) := of_m (j := 4) (o := fs_mPictures_thrown op 0) hp hn40 hpn (by omega) (hnu 4 (by omega))
  have o2 : ex_mPictures_of N (fs_mPictures_thrown op 0) nu (nI p) 2 = some (fs_mPictures_thrown op 0, lI (vlA h g E 2 0 1)) := of_m (j := 2) (o := fs_mPictures_thrown op 0) hp hn40 hpn (by omega) (hnu 2 (by omega))
  have o3 : ex_mPictures_of N (fs_mPictures_thrown op 0) nu (nI p) 3 = some (fs_mPictures_thrown op 0, lI (vlA h g E 3 0 0)) := of_m (j := 3) (o := fs_mPictures_thrown op 0) hp hn40 hpn (by omega) (hnu 3 (by omega))
  have c2 : (lg_cmp (lI (vlA h g E 4 0 1)) 2 = 0) = (vlA h g E 4 0 1 = 2) := propext (lcmp_eq (b := 2) (by omega) (by omega))
  have c1 : (lg_cmp (lI (vlA h g E 2 0 1)) 1 = 0) = (vlA h g E 2 0 1 = 1) := propext (lcmp_eq (b := 1) (by omega) (by omega))
  have c3 : (lg_cmp (lI (vlA h g E 3 0 0)) 1 = 0) = (vlA h g E 3 0 0 = 1) := propext (lcmp_eq (b := 1) (by omega) (by omega))
  unfold ex_Ref_strip
  have w2' : ex_mPictures_where N (fs_mPictures_thrown op 0) nu sl fs sp (nI p) (nI i) 1 = some (fs_mPictures_thrown op 0, sl (sb + i)) := w2
  rw [w1, Option.bind_some, w2', Option.bind_some, o4, Option.bind_some, hsp, hsl]
  have m4 : ∀ (F : Int32 → Option rs_Ref_strip), (if lg_cmp (lI (vlA h g E 4 0 1)) 2 = 0 then F 1 else F 0) = F (nI (tuA h g E).toNat) := by
    intro F; unfold tuA
    by_cases q : vlA h g E 4 0 1 = 2
    · rw [if_pos (c2.mpr q), decide_eq_true q]; rfl
    · rw [if_neg (mt c2.mp q), decide_eq_false q]; rfl
  have m3 : ∀ (F : Int32 → Option rs_Ref_strip), (if lg_cmp (lI (vlA h g E 3 0 0)) 1 = 0 then F 1 else F 0) = F (nI (inA h g E).toNat) := by
    intro F; unfold inA
    by_cases q : vlA h g E 3 0 0 = 1
    · rw [if_pos (c3.mpr q), decide_eq_true q]; rfl
    · rw [if_neg (mt c3.mp q), decide_eq_false q]; rfl
  rw [m4 (fun s => jn_Ref_strip_45 N or nu ol g ra wr br wb bb bl md rl gl ga no out (nI p) (nI w) (iI (vN h g E i)) (fs_mPictures_thrown op 0, lI (vlA h g E 4 0 1)) (fs_mPictures_thrown op 0, iI (vlA h g E 5 i 0)) (fs_mPictures_thrown op 0, iI (vlA h g E 7 i 0)) s)]
  unfold jn_Ref_strip_45
  rw [o2, Option.bind_some]
  obtain ⟨ra1, ho, hra⟩ := ml_open (N := N) (w := w) (pl := (vlA h g E 5 i 0).toNat) (n := (vlA h g E 7 i 0).toNat) (o := ol) (t := tuA h g E) (g := g) (ra := ra) (by omega) hw
  have e1 : (nI w + 7) / 8 = nI ((w + 7) / 8) := by
    rw [show nI w + 7 = nI (w + 7) from nI_add w 7, show nI (w + 7) / 8 = nI ((w + 7) / 8) from nI_div (b := 8) (by omega) (by omega)]
  have hpq : 0 ≤ vN h g E i * ((w + 7) / 8 : Nat) ∧ vN h g E i * ((w + 7) / 8 : Nat) ≤ 20000 * 2000 := ⟨Int.mul_nonneg (by omega) (by omega), Int.mul_le_mul (by omega) (by omega) (by omega) (by omega)⟩
  have em : ((vN h g E i).toNat : Int) = vN h g E i := Int.toNat_of_nonneg (by omega)
  unfold stZ
  by_cases k1 : vlA h g E 2 0 1 = 1
  · rw [if_pos (c1.mpr k1)]
    unfold jn_Ref_strip_66c2
    rw [o3, Option.bind_some, m3 (fun s => jn_Ref_strip_87d3 N or ol g ra wr br wb bb bl md rl gl ga no out (nI w) (iI (vN h g E i)) 1 (fs_mPictures_thrown op 0, iI (vlA h g E 5 i 0)) (fs_mPictures_thrown op 0, iI (vlA h g E 7 i 0)) (nI (tuA h g E).toNat) (fs_mPictures_thrown op 0, lI (vlA h g E 3 0 0)) s)]
    unfold jn_Ref_strip_87d3
    rw [if_neg (show ¬ (1 : Int32) = 0 by decide), e1, iI_l (z := vN h g E i) (by omega), nI_lI (by omega), lI_mul, iI_l (z := vlA h g E 7 i 0) (by omega)]
    simp only [k1, if_true]
    by_cases q : vN h g E i * ((w + 7) / 8 : Nat) ≤ vlA h g E 7 i 0
    · rw [if_pos ((lcmp_le (by omega) (by omega)).mpr q)]
      simp only [q, if_true]
      have hbb : (vlA h g E 5 i 0).toNat + (vN h g E i).toNat * ((w + 7) / 8) ≤ 65536 := by
        have : (((vN h g E i).toNat * ((w + 7) / 8) : Nat) : Int) = vN h g E i * ((w + 7) / 8 : Nat) := by rw [Int.natCast_mul, em]
        omega
      unfold jn_Ref_strip_124e4
      rw [iI_nat r5.1, iI_nat r7.1, iI_nat (show 0 ≤ vN h g E i by omega), ho, Option.bind_some, hb]
      obtain ⟨gl', ga', out', i', a1, a2, a3⟩ := mp_l (N := N) (or := or) (u15 := (fs_mPictures_thrown op 0, lI (vlA h g E 3 0 0))) (nb := (vlA h g E 7 i 0).toNat) (t := tuA h g E) (v := inA h g E) (g := g) (tu := fd_mLines_turns ol) hT (by omega) hw hno (show (vN h g E i).toNat ≤ 20000 by omega) hbb (vN h g E i).toNat 0 N 0 rl gl ga out ra1 up B (by omega) (by omega) hd hB hlen
      have a1' : lp_Ref_strip_148n13 N or g wr br wb bb bl md no (nI w) (nI (vN h g E i).toNat) 1 (fs_mPictures_thrown op 0, lI (vlA h g E 3 0 0)) (nI (inA h g E).toNat) N 0 rl gl ga out (rL w (lN B.length) (vlA h g E 5 i 0).toNat (vlA h g E 7 i 0).toNat (tuA h g E) 0 0 0 (fd_mLines_turns ol)) ra1 = _ := a1
      rw [a1']
      exact ⟨_, _, _, _, _, _, _, rfl, rfl, a2, a3, rfl, fun _ => rfl⟩
    · rw [if_neg (mt (lcmp_le (by omega) (by omega)).mp q)]
      simp only [q, if_false]
      rw [if_neg (show ¬ (18 : Nat) = 0 by decide)]
      exact ⟨_, _, _, _, _, _, _, rfl, rfl, hd, hB, hb, fun x => absurd x (by decide)⟩
  · rw [if_neg (mt c1.mp k1)]
    unfold jn_Ref_strip_66c2
    rw [o3, Option.bind_some, m3 (fun s => jn_Ref_strip_87d3 N or ol g ra wr br wb bb bl md rl gl ga no out (nI w) (iI (vN h g E i)) 0 (fs_mPictures_thrown op 0, iI (vlA h g E 5 i 0)) (fs_mPictures_thrown op 0, iI (vlA h g E 7 i 0)) (nI (tuA h g E).toNat) (fs_mPictures_thrown op 0, lI (vlA h g E 3 0 0)) s)]
    unfold jn_Ref_strip_87d3
    rw [if_pos rfl]
    simp only [k1, if_false]
    unfold jn_Ref_strip_124e4
    rw [iI_nat r5.1, iI_nat r7.1, iI_nat (show 0 ≤ vN h g E i by omega), ho, Option.bind_some, hb]
    obtain ⟨rl', gl', ga', out', o', ra', a1, a2, a3, x1, x2, x3, x4, a4⟩ := pk_m (N := N) (or := or) (u15 := (fs_mPictures_thrown op 0, lI (vlA h g E 3 0 0))) (nB := (vlA h g E 7 i 0).toNat) (pl := (vlA h g E 5 i 0).toNat) (t := tuA h g E) (v := inA h g E) (g := g) hT hR (by omega) hw hno (show (vN h g E i).toNat ≤ 20000 by omega) (by omega) (fun up i hi => ln_b hi) (vN h g E i).toNat 0 N 0 (fd_mLines_turns ol) rl gl ga out ra1 (fun _ => false) up B (by omega) (by omega) (by omega) hra hd hB hlen
    have a1' : lp_Ref_strip_148n13 N or g wr br wb bb bl md no (nI w) (nI (vN h g E i).toNat) 0 (fs_mPictures_thrown op 0, lI (vlA h g E 3 0 0)) (nI (inA h g E).toNat) N 0 rl gl ga out (rL w (lN B.length) (vlA h g E 5 i 0).toNat (vlA h g E 7 i 0).toNat (tuA h g E) 0 0 0 (fd_mLines_turns ol)) ra1 = some (if (stL h g E w i).1 = 0 then Sum.inl (rl', gl', ga', out', o', ra') else Sum.inr (fs_Ref_fault or (nI (10 + (stL h g E w i).1)), (fs_mPictures_thrown op 0), o', ra', rl', gl', ga', out')) := a1
    rw [a1']
    refine ⟨fs_mPictures_thrown op 0, o', ra', rl', gl', ga', out', ?_, rfl, a2, a3, by rw [a4]; rfl, fun _ => by rw [a4]; rfl⟩
    by_cases q : (stL h g E w i).1 = 0
    · simp only [q, if_true]; rfl
    · simp only [q, if_false, show ¬ 10 + (stL h g E w i).1 = 0 by omega]; rfl
theorem nI_any (v : Int32) : ∃ n, v = nI n := by
  refine ⟨v.toBitVec.toNat, Int32.toBitVec_inj.mp ?_⟩
  show v.toBitVec = BitVec.ofNat 32 v.toBitVec.toNat
  apply BitVec.eq_of_toNat_eq
  rw [BitVec.toNat_ofNat, Nat.mod_eq_of_lt v.toBitVec.isLt]
def pgZ (h : Bool) (g : Nat → Int32) (E : Nat → Option Nat) (w : Nat) : Nat → Nat → Nat × List (Nat → Bool)
  | 0, _ => (0, [])
  | r + 1, i => if (stZ h g E w i).1 = 0 then ((pgZ h g E w r (i + 1)).1, (stZ h g E w i).2 ++ (pgZ h g E w r (i + 1)).2) else ((stZ h g E w i).1, (stZ h g E w i).2)
theorem stZ_r {h : Bool} {g : Nat → Int32} {E : Nat → Option Nat} {w i : Nat} (hk : (stL h g E w i).1 ≤ 7) : (stZ h g E w i).1 ≤ 18 := by
  unfold stZ
  split
  · split
    · exact Nat.zero_le _
    · exact Nat.le_refl _
  · show (if (stL h g E w i).1 = 0 then 0 else 10 + (stL h g E w i).1) ≤ 18
    split <;> omega
theorem pk_r {bit : Nat → Bool} {nb w : Nat} {v : Bool} : ∀ (r i : Nat) (up : Nat → Bool), i ≤ nb → (pkA bit nb w v r i up).1 ≤ 7 := by
  intro r
  induction r with
  | zero => intro i up hi; exact Nat.zero_le _
  | succ r ih =>
    intro i up hi
    unfold pkA
    have hb := ln_b (w := w) (bit := bit) (up := up) hi
    split
    · exact ih _ _ hb.1
    · exact hb.2
theorem stL_r {h : Bool} {g : Nat → Int32} {E : Nat → Option Nat} {w i : Nat} : (stL h g E w i).1 ≤ 7 := pk_r _ _ _ (Nat.zero_le _)
theorem sl_c {N L s P w : Nat} {o : ob_PictureFile} {om : ob_Main} {g g' ty ct pp g0 tr ft : Nat → Int32} {h : Bool} {E : Nat → Option Nat} {of : ob_OutFile} (hN : 65550 ≤ N) (ho : o.1 = nI L) (hh : o.2.1 = orI h) (hL : L ≤ 65536) (hg : agree L g g') (hC : enC h g' L E ty ct pp) (hG : enG h g' L E) (hn : nbA h g' E) (h5 : cnA h g' E 5 = vS h g' E) (h7 : cnA h g' E 7 = vS h g' E) (hst : ∀ i, i < (vS h g' E).toNat → stA h g' L E i) (hbit : ∀ i, i < (vS h g' E).toNat → pkA (sbit (tuA h g' E) g (vlA h g' E 5 i 0).toNat) (8 * (vlA h g' E 7 i 0).toNat) w (inA h g' E) (vN h g' E i).toNat 0 (fun _ => false) = stL h g' E w i) (hW : vlA h g' E 0 0 0 = (w : Int)) (hw : w ≤ 10000) (hw1 : 1 ≤ w) (hs : s < 100000) (htr : agree 1024 tr trT) :
    ∀ (r i f : Nat) (ga gl : Nat → Int32) (or : ob_LineReader) (gA gL : Nat → Int32) (oc : ob_Coder) (gb : Nat → Int32) (up : Nat → Bool) (B : List Bool), (i : Int) + r = vS h g' E → r < f → cLn w s P up B oc ga gb g0 →
      ∃ ga' gl' or' gA' gL' oc' gb', lp_Main_printPicture_42 N om o g 11 ty 11 ct 11 pp of tr ft (lI (vS h g' E)) f (nI i) ga gl or gA gL oc gb = some (if (pgZ h g' E w r i).1 = 0 then Sum.inl (ga', gl', or', gA', gL', oc', gb') else Sum.inr (oc', of, gb', ga', gl', or', gA', gL', ft, nI (pgZ h g' E w r i).1)) ∧ cLn w s P (lastU (pgZ h g' E w r i).2 up) (linesB w (pgZ h g' E w r i).2 up B) oc' ga' gb' g0 := by
  have rS := vS_r hn
  obtain ⟨_, qc, _⟩ := gf_c (by omega : 12 ≤ N) ho hh hL hg (Nat.le_refl _) hC hG hn
  have r2 := vC_r (c := 2) (m := 1) hG (by omega) (by omega)
  have hcode := hn.2.2.2.2.1
  intro r
  induction r with
  | zero =>
    intro i f ga gl or gA gL oc gb up B hi hf hc
    obtain ⟨f, rfl⟩ : ∃ z, f = z + 1 := ⟨f - 1, by omega⟩
    refine ⟨ga, gl, or, gA, gL, oc, gb, ?_, hc⟩
    unfold lp_Main_printPicture_42 pgZ
    rw [lI_i, nI_iI i, if_pos ((iI_le (by omega) (by omega)).mpr (by omega)), if_pos rfl]
  | succ r ih =>
    intro i f ga gl or gA gL oc gb up B hi hf hc
    obtain ⟨f, rfl⟩ : ∃ z, f = z + 1 := ⟨f - 1, by omega⟩
    have hle : ¬ iI (vS h g' E) ≤ nI i := by rw [nI_iI i]; exact mt (iI_le (by omega) (by omega)).mp (by omega)
    have hsi := hst i (by omega)
    have c4 : (iI (vlA h g' E 2 0 1) = 4) = (vlA h g' E 2 0 1 = 4) := cd_i r2 4 (by omega)
    unfold lp_Main_printPicture_42
    rw [lI_i, if_neg hle, qc, Option.bind_some]
    unfold pgZ
    by_cases k4 : vlA h g' E 2 0 1 = 4
    · rw [if_pos (c4.mpr k4)]
      obtain ⟨or', gA', gL', oc', gl', ga', gb', h1, h2⟩ := pk_s (N := N) (om := om) (or := or) (gl := gl) (of := of) (gA := gA) (gL := gL) hN ho hh hL hg hC hG hn h5 h7 (by omega) hsi (hbit i (by omega)) hW hw hw1 hs htr (nI_any _) hc
      have e1 : stZ h g' E w i = (if (stL h g' E w i).1 = 0 then 0 else 10 + (stL h g' E w i).1, (stL h g' E w i).2) := by
        unfold stZ; rw [if_neg (by omega)]
      have h7' := stL_r (h := h) (g := g') (E := E) (w := w) (i := i)
      rw [h1, Option.bind_some, e1]
      by_cases q : (stL h g' E w i).1 = 0
      · simp only [q, if_true]
        rw [show nI i + 1 = nI (i + 1) from nI_add i 1]
        obtain ⟨ga2, gl2, or2, gA2, gL2, oc2, gb2, h3, h4⟩ := ih (i + 1) f ga' gl' or' gA' gL' oc' gb' _ _ (by omega) (by omega) h2
        refine ⟨ga2, gl2, or2, gA2, gL2, oc2, gb2, h3, ?_⟩
        rw [lastU_app, linesB_app]; exact h4
      · simp only [q, if_false, show ¬ 10 + (stL h g' E w i).1 = 0 by omega]
        rw [if_neg (mt (nI_eq0 (by omega)).mp (show ¬ 10 + (stL h g' E w i).1 = 0 by omega))]
        exact ⟨_, _, _, _, _, _, _, rfl, h2⟩
    · rw [if_neg (mt c4.mp k4)]
      have k1 : vlA h g' E 2 0 1 = 1 := by omega
      have hps := ps_c (N := N) (om := om) (gl := gl) (of := of) hN ho hh hL hg hC hG hn h5 h7 (show (i : Int) < vS h g' E by omega) hsi hW hw hs hc
      by_cases q : vN h g' E i * ((w + 7) / 8 : Nat) ≤ vlA h g' E 7 i 0
      · rw [if_pos q] at hps
        obtain ⟨oc', gl', ga', gb', h1, h2⟩ := hps
        have e1 : stZ h g' E w i = (0, (List.range' 0 (vN h g' E i).toNat).map (plL (tuA h g' E) (inA h g' E) g' (vlA h g' E 5 i 0).toNat ((w + 7) / 8))) := by
          unfold stZ; rw [if_pos k1, if_pos q]
        rw [h1, Option.bind_some, e1]
        simp only [if_true]
        rw [show nI i + 1 = nI (i + 1) from nI_add i 1]
        obtain ⟨ga2, gl2, or2, gA2, gL2, oc2, gb2, h3, h4⟩ := ih (i + 1) f ga' gl' or gA gL oc' gb' _ _ (by omega) (by omega) h2
        refine ⟨ga2, gl2, or2, gA2, gL2, oc2, gb2, h3, ?_⟩
        rw [lastU_app, linesB_app]; exact h4
      · rw [if_neg q] at hps
        have e1 : stZ h g' E w i = (18, []) := by unfold stZ; rw [if_pos k1, if_neg q]
        rw [hps, Option.bind_some, e1]
        simp only [show ¬ (18 : Nat) = 0 by decide, if_false]
        rw [if_neg (show ¬ (18 : Int32) = 0 by decide)]
        exact ⟨ga, gl, or, gA, gL, oc, gb, rfl, hc⟩
theorem len_1 {b K m r X : Nat} (h : b + K * (20000 * (r + 1)) < X) (hm : m ≤ 20000) : b + K * m < X := by
  have : K * m ≤ K * (20000 * (r + 1)) := Nat.mul_le_mul_left K (by omega)
  omega
theorem len_2 {b b' K m r X : Nat} (h : b + K * (20000 * (r + 1)) < X) (hm : m ≤ 20000) (hb : b' ≤ b + K * m) : b' + K * (20000 * r) < X := by
  have h1 : K * m ≤ K * 20000 := Nat.mul_le_mul_left K hm
  have h2 : K * (20000 * (r + 1)) = K * (20000 * r) + K * 20000 := by rw [Nat.mul_succ, Nat.mul_add]
  omega
theorem pk_len {bit : Nat → Bool} {nb w : Nat} {v : Bool} : ∀ (r i : Nat) (up : Nat → Bool), (pkA bit nb w v r i up).2.length ≤ r := by
  intro r
  induction r with
  | zero => intro i up; exact Nat.le_refl _
  | succ r ih =>
    intro i up
    unfold pkA
    split
    · show (_ :: _).length ≤ _
      rw [List.length_cons]
      have := ih (lineA bit nb w up i).1 (lineA bit nb w up i).2.2
      omega
    · exact Nat.zero_le _
theorem stZ_len {h : Bool} {g : Nat → Int32} {E : Nat → Option Nat} {w i : Nat} : (stZ h g E w i).2.length ≤ (vN h g E i).toNat := by
  unfold stZ
  split
  · split
    · show ((List.range' 0 (vN h g E i).toNat).map _).length ≤ _
      rw [List.length_map, List.length_range']
      exact Nat.le_refl _
    · exact Nat.zero_le _
  · exact pk_len _ _ _
theorem vN_m {h : Bool} {g : Nat → Int32} {E : Nat → Option Nat} {i : Nat} (hn : nbA h g E) (hi : (i : Int) < vS h g E) : (if vH h g E - i * nuA h g E 5 ≤ nuA h g E 5 then vH h g E - i * nuA h g E 5 else nuA h g E 5) = vN h g E i ∧ 0 ≤ i * nuA h g E 5 ∧ i * nuA h g E 5 ≤ 20000 := by
  obtain ⟨h1, h2⟩ := vS_i hn hi
  have h3 := hn.2.2.2.2.2.2.2.2.2.2.1
  have h4 : vH h g E ≤ 20000 := hn.2.2.2.1
  have h5 : 1 ≤ vH h g E := hn.2.2.1
  have e5 : nuA h g E 5 = if vR h g E < vH h g E then vR h g E else vH h g E := rfl
  unfold vN
  by_cases q : vR h g E < vH h g E
  · rw [e5, if_pos q]
    refine ⟨?_, h1, by omega⟩
    by_cases a : vR h g E < vH h g E - i * vR h g E
    · rw [if_neg (by omega), if_pos a]
    · rw [if_pos (by omega), if_neg a]
  · have i0 : i = 0 := by
      apply Classical.byContradiction
      intro hne
      have : 1 * vR h g E ≤ i * vR h g E := Int.mul_le_mul_of_nonneg_right (by omega) (by omega)
      omega
    subst i0
    rw [e5, if_neg q]
    refine ⟨?_, by omega, by omega⟩
    rw [if_pos (by omega), if_neg (by omega)]
    omega
theorem sl_m {N L n p w sb no : Nat} {nu : Nat → Int64} {fs sp sl g wr br wb bb bl md : Nat → Int32} {h : Bool} {E : Nat → Option Nat} {a1 a2 a3 a4 : ob_mPictures} (hN : 65550 ≤ N) (hT : mTab wr br wb bb bl md) (hR : rdT wr br wb bb bl md) (hno : no < 100000) (hL : L ≤ 65536) (hG : enG h g L E) (hn : nbA h g E) (hn40 : n ≤ 40) (hpn : p < n) (hnu : ∀ j, j < 12 → nu (13 * p + j) = lI (nuA h g E j)) (hf : fs p = nI sb) (h8 : (sb : Int) + vS h g E ≤ 8192) (hst : ∀ i, i < (vS h g E).toNat → stA h g L E i) (hsp : ∀ i, i < (vS h g E).toNat → sp (sb + i) = iI (vlA h g E 5 i 0) ∧ sl (sb + i) = iI (vlA h g E 7 i 0)) (hw : w ≤ 10000) :
    ∀ (r i f : Nat) (or : ob_Ref) (out rl ra : Nat → Int32) (op : ob_mPictures) (ol : ob_mLines) (ga gl : Nat → Int32) (up : Nat → Bool) (B : List Bool), (i : Int) + r = vS h g E → r + 1 < f → fd_Ref_fault or = 0 → fd_mPictures_pages op = nI n → fd_mLines_bits ol = lN B.length → fd_mLines_width ol = nI w → B.length + 10001000 * (20000 * r) < 2 ^ 60 → dots w ga up → mB no B out →
      ∃ out' rl' ra' op' ol' ga' gl', lp_Ref_page_99 N nu g fs sp sl wr br wb bb bl md no (nI p) (a1, lI (vS h g E)) (a2, lI (vH h g E)) (a3, lI (nuA h g E 5)) (a4, lI (w : Int)) f (nI i) or out rl ra op ol ga gl = some (if (pgZ h g E w r i).1 = 0 then or else fs_Ref_fault or (nI (pgZ h g E w r i).1), out', rl', ra', op', ol', ga', gl') ∧ (∃ th, op' = fs_mPictures_thrown op th) ∧ dots w ga' (lastU (pgZ h g E w r i).2 up) ∧ mB no (linesB w (pgZ h g E w r i).2 up B) out' ∧ fd_mLines_bits ol' = lN (linesB w (pgZ h g E w r i).2 up B).length ∧ ((pgZ h g E w r i).1 = 0 → fd_mLines_width ol' = nI w) := by
  have rS := vS_r hn
  intro r
  induction r with
  | zero =>
    intro i f or out rl ra op ol ga gl up B hi hf' hfa hp hb hwd hlen hd hB
    obtain ⟨f, rfl⟩ : ∃ z, f = z + 1 := ⟨f - 1, by omega⟩
    refine ⟨out, rl, ra, op, ol, ga, gl, ?_, ⟨fd_mPictures_thrown op, rfl⟩, hd, hB, hb, fun _ => hwd⟩
    unfold lp_Ref_page_99 pgZ
    have hle : (lI (vS h g E)).toInt32 ≤ nI i := by rw [lI_i, nI_iI i]; exact (iI_le (by omega) (by omega)).mpr (by omega)
    rw [if_pos hle, if_pos rfl]
  | succ r ih =>
    intro i f or out rl ra op ol ga gl up B hi hf' hfa hp hb hwd hlen hd hB
    obtain ⟨f, rfl⟩ : ∃ z, f = z + 1 + 1 := ⟨f - 2, by omega⟩
    have hle : ¬ (lI (vS h g E)).toInt32 ≤ nI i := by rw [lI_i, nI_iI i]; exact mt (iI_le (by omega) (by omega)).mp (by omega)
    have hii : (i : Int) < vS h g E := by omega
    have rN := vN_r hn hii
    obtain ⟨v1, v2, v3⟩ := vN_m hn hii
    have h4 : vH h g E ≤ 20000 := hn.2.2.2.1
    have h5 : 1 ≤ vH h g E := hn.2.2.1
    have rM : 1 ≤ nuA h g E 5 ∧ nuA h g E 5 ≤ 20000 := by
      have h3 := hn.2.2.2.2.2.2.2.2.2.2.1
      show 1 ≤ (if vR h g E < vH h g E then vR h g E else vH h g E) ∧ (if vR h g E < vH h g E then vR h g E else vH h g E) ≤ 20000
      split <;> omega
    obtain ⟨op1, ol1, ra1, rl1, gl1, ga1, out1, s1, s2, s3, s4, s5, s6⟩ := sr_m (N := N) (L := L) (or := or) (op := op) (ol := ol) (ra := ra) (rl := rl) (gl := gl) hN hT hR hno hL hG hn hp hn40 hpn hnu hf h8 hii (hst i (by omega)) (hsp i (by omega)).1 (hsp i (by omega)).2 hw hb (len_1 hlen (by omega)) hd hB
    have eM : (lI (vH h g E)).toInt32 - nI i * (lI (nuA h g E 5)).toInt32 = iI (vH h g E - i * nuA h g E 5) := by rw [lI_i, lI_i, nI_iI, iI_mul, iI_sub]
    have cM : ((lI (vH h g E)).toInt32 - nI i * (lI (nuA h g E 5)).toInt32 ≤ (lI (nuA h g E 5)).toInt32) = (vH h g E - i * nuA h g E 5 ≤ nuA h g E 5) := by rw [eM, lI_i]; exact propext (iI_le (by omega) (by omega))
    have hlen2 : (linesB w (stZ h g E w i).2 up B).length + 10001000 * (20000 * r) < 2 ^ 60 := len_2 hlen (Nat.le_trans stZ_len (by omega)) (linesB_length w hw _ up B)
    have step (F : Int32) (hF : F = iI (vN h g E i)) : ∃ out' rl' ra' op' ol' ga' gl', (ex_Ref_strip N or op nu fs sp sl ol g ra wr br wb bb bl md rl gl ga no out (nI p) (nI i) (lI (w : Int)).toInt32 F).bind (fun u => lp_Ref_page_99 N nu g fs sp sl wr br wb bb bl md no (nI p) (a1, lI (vS h g E)) (a2, lI (vH h g E)) (a3, lI (nuA h g E 5)) (a4, lI (w : Int)) (f + 1) (nI i + 1) u.1 u.2.2.2.2.2.2.2 u.2.2.2.2.1 u.2.2.2.1 u.2.1 u.2.2.1 u.2.2.2.2.2.2.1 u.2.2.2.2.2.1) = some (if (pgZ h g E w (r + 1) i).1 = 0 then or else fs_Ref_fault or (nI (pgZ h g E w (r + 1) i).1), out', rl', ra', op', ol', ga', gl') ∧ (∃ th, op' = fs_mPictures_thrown op th) ∧ dots w ga' (lastU (pgZ h g E w (r + 1) i).2 up) ∧ mB no (linesB w (pgZ h g E w (r + 1) i).2 up B) out' ∧ fd_mLines_bits ol' = lN (linesB w (pgZ h g E w (r + 1) i).2 up B).length ∧ ((pgZ h g E w (r + 1) i).1 = 0 → fd_mLines_width ol' = nI w) := by
      subst hF
      rw [show (lI (w : Int)).toInt32 = nI w from lI_i _, s1, Option.bind_some]
      subst s2
      by_cases q : (stZ h g E w i).1 = 0
      · have ep : pgZ h g E w (r + 1) i = ((pgZ h g E w r (i + 1)).1, (stZ h g E w i).2 ++ (pgZ h g E w r (i + 1)).2) := by
          conv => lhs; unfold pgZ
          rw [if_pos q]
        rw [ep]
        simp only [q, if_true]
        rw [show nI i + 1 = nI (i + 1) from nI_add i 1]
        obtain ⟨out2, rl2, ra2, op2, ol2, ga2, gl2, t1, ⟨th, t2⟩, t3, t4, t5, t6⟩ := ih (i + 1) (f + 1) or out1 rl1 ra1 (fs_mPictures_thrown op 0) ol1 ga1 gl1 _ _ (by omega) (by omega) hfa hp s5 (s6 q) hlen2 s3 s4
        refine ⟨out2, rl2, ra2, op2, ol2, ga2, gl2, t1, ⟨th, t2⟩, ?_, ?_, ?_, t6⟩
        · rw [lastU_app]; exact t3
        · rw [linesB_app]; exact t4
        · rw [linesB_app]; exact t5
      · have ep : pgZ h g E w (r + 1) i = ((stZ h g E w i).1, (stZ h g E w i).2) := by
          conv => lhs; unfold pgZ
          rw [if_neg q]
        rw [ep]
        simp only [q, if_false]
        have hq18 := stZ_r (stL_r (h := h) (g := g) (E := E) (w := w) (i := i))
        refine ⟨out1, rl1, ra1, fs_mPictures_thrown op 0, ol1, ga1, gl1, ?_, ⟨0, rfl⟩, s3, s4, s5, fun x => x.elim⟩
        unfold lp_Ref_page_99
        have hnf : ¬ fd_Ref_fault (fs_Ref_fault or (nI (stZ h g E w i).1)) = 0 := mt (nI_eq0 (by omega)).mp q
        rw [if_neg hnf, ite_self]
    unfold lp_Ref_page_99
    rw [if_neg hle, if_pos hfa]
    by_cases a : vH h g E - i * nuA h g E 5 ≤ nuA h g E 5
    · rw [if_pos (cM.mpr a)]
      rw [if_pos a] at v1
      exact step _ (by rw [eM, v1])
    · rw [if_neg (mt cM.mp a)]
      rw [if_neg a] at v1
      exact step _ (by rw [lI_i, v1])
theorem pk_len0 {bit : Nat → Bool} {nb w : Nat} {v : Bool} : ∀ (r i : Nat) (up : Nat → Bool), (pkA bit nb w v r i up).1 = 0 → (pkA bit nb w v r i up).2.length = r := by
  intro r
  induction r with
  | zero => intro i up _; rfl
  | succ r ih =>
    intro i up h0
    unfold pkA at h0 ⊢
    by_cases q : (lineA bit nb w up i).2.1 = 0
    · simp only [q, if_true] at h0 ⊢
      rw [List.length_cons, ih _ _ h0]
    · simp only [q, if_false] at h0
theorem stZ_len0 {h : Bool} {g : Nat → Int32} {E : Nat → Option Nat} {w i : Nat} (h0 : (stZ h g E w i).1 = 0) : (stZ h g E w i).2.length = (vN h g E i).toNat := by
  unfold stZ at h0 ⊢
  by_cases k1 : vlA h g E 2 0 1 = 1
  · simp only [k1, if_true] at h0 ⊢
    by_cases q : vN h g E i * ((w + 7) / 8 : Nat) ≤ vlA h g E 7 i 0
    · simp only [q, if_true]
      rw [List.length_map, List.length_range']
    · simp only [q, if_false] at h0
      exact absurd h0 (by decide)
  · simp only [k1, if_false] at h0 ⊢
    have h1 : (stL h g E w i).1 = 0 := by
      by_cases q : (stL h g E w i).1 = 0
      · exact q
      · simp only [q, if_false] at h0; omega
    exact pk_len0 _ _ _ h1
theorem vS_last {h : Bool} {g : Nat → Int32} {E : Nat → Option Nat} {i : Nat} (hn : nbA h g E) (hi : (i : Int) + 1 = vS h g E) : vH h g E - i * vR h g E ≤ vR h g E := by
  have h3 := hn.2.2.2.2.2.2.2.2.2.2.1
  have h1 : (vH h g E + vR h g E - 1) / vR h g E < (i : Int) + 2 := by
    have : (vH h g E + vR h g E - 1) / vR h g E = vS h g E := rfl
    omega
  have h2 := (Int.ediv_lt_iff_lt_mul (show 0 < vR h g E by omega)).mp h1
  have e : ((i : Int) + 2) * vR h g E = i * vR h g E + 2 * vR h g E := by rw [Int.add_mul]
  rw [e] at h2
  omega
theorem pgZ_len {h : Bool} {g : Nat → Int32} {E : Nat → Option Nat} {w : Nat} (hn : nbA h g E) : ∀ (r i : Nat), (i : Int) + (r + 1) = vS h g E → (pgZ h g E w (r + 1) i).1 = 0 → ((pgZ h g E w (r + 1) i).2.length : Int) = vH h g E - i * vR h g E := by
  intro r
  induction r with
  | zero =>
    intro i hi h0
    have hii : (i : Int) < vS h g E := by omega
    have rN := vN_r hn hii
    have hl := vS_last hn (i := i) (by omega)
    unfold pgZ at h0 ⊢
    by_cases q : (stZ h g E w i).1 = 0
    · simp only [q, if_true] at h0 ⊢
      rw [List.length_append, stZ_len0 q]
      show (((vN h g E i).toNat + 0 : Nat) : Int) = _
      have : vN h g E i = vH h g E - i * vR h g E := by unfold vN; rw [if_neg (by omega)]
      omega
    · simp only [q, if_false] at h0
  | succ r ih =>
    intro i hi h0
    have hii : (i : Int) < vS h g E := by omega
    have rN := vN_r hn hii
    obtain ⟨_, g2⟩ := vS_i hn (i := i + 1) (by omega)
    have e : ((i + 1 : Nat) : Int) * vR h g E = i * vR h g E + vR h g E := by rw [Int.natCast_add, Int.add_mul]; omega
    rw [e] at g2
    unfold pgZ at h0 ⊢
    by_cases q : (stZ h g E w i).1 = 0
    · simp only [q, if_true] at h0 ⊢
      have h1 := ih (i + 1) (by omega) h0
      rw [e] at h1
      rw [List.length_append, stZ_len0 q]
      have : vN h g E i = vR h g E := by unfold vN; rw [if_pos (by omega)]
      have r3 := hn.2.2.2.2.2.2.2.2.2.2.1
      rw [Int.natCast_add, h1, this, Int.toNat_of_nonneg (by omega)]
      omega
    · simp only [q, if_false] at h0
theorem pgZ_all {h : Bool} {g : Nat → Int32} {E : Nat → Option Nat} {w : Nat} (hn : nbA h g E) (h0 : (pgZ h g E w (vS h g E).toNat 0).1 = 0) : ((pgZ h g E w (vS h g E).toNat 0).2.length : Int) = vH h g E := by
  have rS := vS_r hn
  have h3 := hn.2.2.2.2.2.2.2.2.2.2.1
  have h5 : 1 ≤ vH h g E := hn.2.2.1
  have h1 : 1 ≤ vS h g E := (Int.le_ediv_iff_mul_le (show 0 < vR h g E by omega)).mpr (by omega)
  obtain ⟨r, hr⟩ : ∃ r, (vS h g E).toNat = r + 1 := ⟨(vS h g E).toNat - 1, by omega⟩
  rw [hr] at h0 ⊢
  have := pgZ_len hn r 0 (by omega) h0
  rw [this]
  omega
theorem goA_0 {h : Bool} {g : Nat → Int32} {L P0 : Nat} : ∀ (r p : Nat), (goA h g L P0 r p).1 = 0 → ∀ q, p ≤ q → q < (goA h g L P0 r p).2 → (rdA h g L (plS h g P0 q)).1 = 0 ∧ ckA h g L (eSq h g L P0 q) (sbS h g L P0 q) = 0 ∧ (nxA h g (plS h g P0 q) = 0 ↔ q + 1 = (goA h g L P0 r p).2) := by
  intro r
  induction r with
  | zero => intro p h0; exact absurd h0 (show ¬ (2 : Int) = 0 by decide)
  | succ r ih =>
    intro p h0 q hq1 hq2
    unfold goA at h0 hq2 ⊢
    by_cases a : (rdA h g L (plS h g P0 p)).1 = 0
    · simp only [a, not_true, if_false] at h0 hq2 ⊢
      by_cases b : ckA h g L (eSq h g L P0 p) (sbS h g L P0 p) = 0
      · simp only [b, not_true, if_false] at h0 hq2 ⊢
        by_cases c : nxA h g (plS h g P0 p) = 0
        · simp only [c, if_true] at h0 hq2 ⊢
          have e : q = p := by omega
          subst e
          exact ⟨a, b, ⟨fun _ => rfl, fun _ => c⟩⟩
        · simp only [c, if_false] at h0 hq2 ⊢
          have hr := goA_r (h := h) (g := g) (L := L) (P0 := P0) r (p + 1)
          by_cases e : q = p
          · subst e
            refine ⟨a, b, ⟨fun x => absurd x c, fun x => ?_⟩⟩
            have := ih (q + 1) h0
            cases r with
            | zero => exact absurd h0 (show ¬ (2 : Int) = 0 by decide)
            | succ r =>
              exfalso
              have h2 : q + 1 < (goA h g L P0 (r + 1) (q + 1)).2 := by
                have h0' := h0
                unfold goA at h0' ⊢
                by_cases a' : (rdA h g L (plS h g P0 (q + 1))).1 = 0
                · simp only [a', not_true, if_false] at h0' ⊢
                  by_cases b' : ckA h g L (eSq h g L P0 (q + 1)) (sbS h g L P0 (q + 1)) = 0
                  · simp only [b', not_true, if_false] at h0' ⊢
                    by_cases c' : nxA h g (plS h g P0 (q + 1)) = 0
                    · simp only [c', if_true]; omega
                    · simp only [c', if_false]
                      have := (goA_r (h := h) (g := g) (L := L) (P0 := P0) r (q + 1 + 1)).2.2.1
                      omega
                  · simp only [b', not_false_eq_true, if_true] at h0'
                · simp only [a', not_false_eq_true, if_true] at h0'
              omega
          · exact ih (p + 1) h0 q (by omega) hq2
      · simp only [b, not_false_eq_true, if_true] at h0
    · simp only [a, not_false_eq_true, if_true] at h0
theorem g0_low {S i : Nat} {g : Nat → Int32} (hi : i < S) : (if S < 60000 then bw g S (le 0 (S % 2)) else g) i = g i := by
  split
  · exact bw_low _ _ _ _ hi
  · rfl
theorem pp_19 {N L w : Nat} {o : ob_PictureFile} {om : ob_Main} {g g' ty ct pp gb ga gl tr gA gL ft : Nat → Int32} {or : ob_LineReader} {oc : ob_Coder} {of : ob_OutFile} {h : Bool} {E : Nat → Option Nat} (hN : 65550 ≤ N) (ho : o.1 = nI L) (hh : o.2.1 = orI h) (hL : L ≤ 65536) (hg : agree L g g') (hC : enC h g' L E ty ct pp) (hG : enG h g' L E) (hn : nbA h g' E) (hW : vlA h g' E 0 0 0 = (w : Int)) (hw : 10000 < w) :
    ex_Main_printPicture N om o g 11 ty 11 ct 11 pp oc of gb ga gl or tr gA gL ft = some (oc, of, gb, ga, gl, or, gA, gL, ft, 19) := by
  obtain ⟨q4, _⟩ := gf_c (by omega : 12 ≤ N) ho hh hL hg (Nat.le_refl _) hC hG hn
  have h20 := hn.2.1
  unfold ex_Main_printPicture
  have c : ¬ (lI (w : Int)).toInt32 ≤ (10000 : Int32) := by rw [lI_i]; exact mt (iI_le (b := 10000) (by omega) (by omega)).mp (by omega)
  rw [q4, Option.bind_some, hW, if_neg c]
theorem pp_c {N L w S P K : Nat} {o : ob_PictureFile} {om : ob_Main} {g g' ty ct pp gby ga gl tr gA gL ft : Nat → Int32} {or : ob_LineReader} {oc : ob_Coder} {h : Bool} {E : Nat → Option Nat} {F : Nat} {ls : List (Nat → Bool)} {B : List Bool} (hN : 65550 ≤ N) (ho : o.1 = nI L) (hh : o.2.1 = orI h) (hL : L ≤ 65536) (hg : agree L g g') (hC : enC h g' L E ty ct pp) (hG : enG h g' L E) (hn : nbA h g' E) (h5 : cnA h g' E 5 = vS h g' E) (h7 : cnA h g' E 7 = vS h g' E) (hst : ∀ i, i < (vS h g' E).toNat → stA h g' L E i) (hbit : ∀ i, i < (vS h g' E).toNat → pkA (sbit (tuA h g' E) g (vlA h g' E 5 i 0).toNat) (8 * (vlA h g' E 7 i 0).toNat) w (inA h g' E) (vN h g' E i).toNat 0 (fun _ => false) = stL h g' E w i) (hW : vlA h g' E 0 0 0 = (w : Int)) (hw : w ≤ 10000) (hS : S ≤ 60160) (hP : P ≤ 40) (hK : K + 4 ≤ 60160) (htr : agree 1024 tr trT) (hF : F = (pgZ h g' E w (vS h g' E).toNat 0).1) (hls : ls = (pgZ h g' E w (vS h g' E).toNat 0).2) (hB : B = linesB w ls (fun _ => false) []) :
    ∃ oc' ga' gl' or' gA' gL' g1, (∀ i, i < S + S % 2 → g1 i = (if S < 60000 then bw gby S (le 0 (S % 2)) else gby) i) ∧ ((¬ F = 0 ∧ ex_Main_printPicture N om o g 11 ty 11 ct 11 pp oc (nI S, nI P, nI K) gby ga gl or tr gA gL ft = some (oc', (nI S, nI P, nI K), g1, ga', gl', or', gA', gL', ft, nI F)) ∨
      (F = 0 ∧ P < 40 ∧ S + S % 2 + (endB B).length / 8 ≤ 60000 ∧ (∀ k, k < (endB B).length / 8 → g1 (S + S % 2 + k) = byI (bvf (gb (endB B)) (8 * k) 8)) ∧ ex_Main_printPicture N om o g 11 ty 11 ct 11 pp oc (nI S, nI P, nI K) gby ga gl or tr gA gL ft = some (oc', (addedC P K (S + S % 2) ((endB B).length / 8) (nI w) (iI (vH h g' E)) (iI (fnA h g' E 8)) (iI (fnA h g' E 9)) ft g1).1, (addedC P K (S + S % 2) ((endB B).length / 8) (nI w) (iI (vH h g' E)) (iI (fnA h g' E 8)) (iI (fnA h g' E 9)) ft g1).2.1, ga', gl', or', gA', gL', (addedC P K (S + S % 2) ((endB B).length / 8) (nI w) (iI (vH h g' E)) (iI (fnA h g' E 8)) (iI (fnA h g' E 9)) ft g1).2.2, 0)) ∨
      (F = 0 ∧ ¬ (P < 40 ∧ S + S % 2 + (endB B).length / 8 ≤ 60000) ∧ ex_Main_printPicture N om o g 11 ty 11 ct 11 pp oc (nI S, nI P, nI K) gby ga gl or tr gA gL ft = some (oc', (nI S, nI P, nI K), g1, ga', gl', or', gA', gL', ft, 20))) := by
  have rS := vS_r hn
  obtain ⟨q4, _, _, _, f8, f9⟩ := gf_c (by omega : 12 ≤ N) ho hh hL hg (Nat.le_refl _) hC hG hn
  obtain ⟨_, s2, s3⟩ := st_c (by omega : 12 ≤ N) ho hh hL hg (Nat.le_refl _) hC hG hn
  have h1 := hn.1
  obtain ⟨oc1, g2, b1, b2⟩ := sm_cbegin (N := N) (w := w) (kk := nI K) (o := oc) (ga := ga) (g := gby) hS hP
  obtain ⟨ga', gl', or', gA', gL', oc', gb', l1, l2⟩ := sl_c (N := N) (om := om) (ft := ft) (of := (nI S, nI P, nI K)) hN ho hh hL hg hC hG hn h5 h7 hst hbit hW hw (by omega) (by omega) htr (vS h g' E).toNat 0 N ga gl or gA gL oc1 g2 _ _ (by omega) (by omega) b2
  rw [← hF] at l1
  rw [← hls, ← hB] at l2
  unfold ex_Main_printPicture
  have c : (lI (w : Int)).toInt32 ≤ (10000 : Int32) := by rw [lI_i]; exact (iI_le (b := 10000) (by omega) (by omega)).mpr (by omega)
  have l1' : lp_Main_printPicture_42 N om o g 11 ty 11 ct 11 pp (nI S, nI P, nI K) tr ft (lI (vS h g' E)) N 0 ga gl or gA gL oc1 g2 = _ := l1
  rw [q4, Option.bind_some, hW, if_pos c, show (lI (w : Int)).toInt32 = nI w from lI_i _, b1, Option.bind_some, s3, Option.bind_some, l1']
  by_cases q : F = 0
  · rw [if_pos q]
    obtain ⟨oc2, g1, k1, k2⟩ := sm_cfinish (N := N) (L := nI S) (h := iI (vH h g' E)) (ac := iI (fnA h g' E 8)) (dn := iI (fnA h g' E 9)) (t := ft) (by omega) (by omega) hK l2
    refine ⟨oc2, ga', gl', or', gA', gL', g1, k1, Or.inr ?_⟩
    rcases k2 with ⟨m1, m2, m3, m4⟩ | ⟨m1, m4⟩
    · refine Or.inl ⟨q, m1, m2, m3, ?_⟩
      show (ex_PictureFile_height N o 65536 g 11 ty 11 ct 11 pp).bind _ = _
      rw [s2, Option.bind_some, f8, Option.bind_some, f9, Option.bind_some, lI_i, m4]
      rfl
    · refine Or.inr ⟨q, m1, ?_⟩
      show (ex_PictureFile_height N o 65536 g 11 ty 11 ct 11 pp).bind _ = _
      rw [s2, Option.bind_some, f8, Option.bind_some, f9, Option.bind_some, lI_i, m4]
      rfl
  · rw [if_neg q]
    exact ⟨oc', ga', gl', or', gA', gL', gb', l2.2.2.1, Or.inl ⟨q, rfl⟩⟩
theorem mst_eq {o : ob_mLines} {w L : Nat} (hw : fd_mLines_width o = nI w) (hb : fd_mLines_bits o = lN L) : o = mSt (nI w) L o.2.2 := by
  obtain ⟨a, b, r⟩ := o
  have ha : a = nI w := hw
  have hb' : b = lN L := hb
  subst ha hb'
  rfl
theorem rp_19 {N n p w cm no : Nat} {or : ob_Ref} {op : ob_mPictures} {ol : ob_mLines} {oJ : ob_mPictures} {nu : Nat → Int64} {fs sp sl g ra wr br wb bb bl md rl gl ga out f pgs pc lc : Nat → Int32} {h : Bool} {E : Nat → Option Nat} (hn : nbA h g E) (hp : fd_mPictures_pages op = nI n) (hn40 : n ≤ 40) (hpn : p < n) (hnu : ∀ j, j < 12 → nu (13 * p + j) = lI (nuA h g E j)) (hcm : fd_Ref_comeTo or = nI cm) (hcm2 : cm < 300) (hW : vlA h g E 0 0 0 = (w : Int)) (hw : 10000 < w) :
    ex_Ref_page N or op nu ol gl ga g fs sp sl wr br wb bb bl md no out rl ra oJ pgs f pc lc (nI p) = some (fs_Ref_comeTo (fs_Ref_fault or 19) (nI (cm + 1)), fs_mPictures_thrown op 0, ol, gl, ga, out, rl, ra, oJ, pgs, f, pc, lc) := by
  have h20 := hn.2.1
  have o0 : ex_mPictures_of N op nu (nI p) 0 = some (fs_mPictures_thrown op 0, lI (w : Int)) := of_m (j := 0) hp hn40 hpn (by omega) ((hnu 0 (by omega)).trans (congrArg lI hW))
  have o1 : ex_mPictures_of N (fs_mPictures_thrown op 0) nu (nI p) 1 = some (fs_mPictures_thrown op 0, lI (nuA h g E 1)) := of_m (j := 1) (o := fs_mPictures_thrown op 0) hp hn40 hpn (by omega) (hnu 1 (by omega))
  have o5 : ex_mPictures_of N (fs_mPictures_thrown op 0) nu (nI p) 5 = some (fs_mPictures_thrown op 0, lI (nuA h g E 5)) := of_m (j := 5) (o := fs_mPictures_thrown op 0) hp hn40 hpn (by omega) (hnu 5 (by omega))
  have o6 : ex_mPictures_of N (fs_mPictures_thrown op 0) nu (nI p) 6 = some (fs_mPictures_thrown op 0, lI (nuA h g E 6)) := of_m (j := 6) (o := fs_mPictures_thrown op 0) hp hn40 hpn (by omega) (hnu 6 (by omega))
  have c3 : ¬ nI cm = (300 : Int32) := mt (nI_eq (b := 300) (by omega) (by omega)).mp (by omega)
  have c : ¬ (lI (w : Int)).toInt32 ≤ (10000 : Int32) := by rw [lI_i]; exact mt (iI_le (b := 10000) (by omega) (by omega)).mp (by omega)
  unfold ex_Ref_page
  rw [hcm, if_neg c3, o0, Option.bind_some, o1, Option.bind_some, o5, Option.bind_some, o6, Option.bind_some, if_neg c, show nI cm + 1 = nI (cm + 1) from nI_add cm 1]
theorem rp_c {N L n p w cm sb no : Nat} {or : ob_Ref} {op : ob_mPictures} {ol : ob_mLines} {oJ : ob_mPictures} {nu : Nat → Int64} {fs sp sl g ra wr br wb bb bl md rl gl ga out f pgs pc lc : Nat → Int32} {h : Bool} {E : Nat → Option Nat} {F : Nat} {ls : List (Nat → Bool)} {B : List Bool} (hN : 65550 ≤ N) (hT : mTab wr br wb bb bl md) (hR : rdT wr br wb bb bl md) (hno : no < 100000) (hL : L ≤ 65536) (hG : enG h g L E) (hn : nbA h g E) (hp : fd_mPictures_pages op = nI n) (hn40 : n ≤ 40) (hpn : p < n) (hnu : ∀ j, j < 12 → nu (13 * p + j) = lI (nuA h g E j)) (hf : fs p = nI sb) (h8 : (sb : Int) + vS h g E ≤ 8192) (hst : ∀ i, i < (vS h g E).toNat → stA h g L E i) (hsp : ∀ i, i < (vS h g E).toNat → sp (sb + i) = iI (vlA h g E 5 i 0) ∧ sl (sb + i) = iI (vlA h g E 7 i 0)) (hcm : fd_Ref_comeTo or = nI cm) (hcm2 : cm < 300) (hfa : fd_Ref_fault or = 0) (hW : vlA h g E 0 0 0 = (w : Int)) (hw : w ≤ 10000) (hout : ∀ k, k < no → isB (out k)) (hF : F = (pgZ h g E w (vS h g E).toNat 0).1) (hls : ls = (pgZ h g E w (vS h g E).toNat 0).2) (hB : B = linesB w ls (fun _ => false) []) :
    ∃ op' ol' gl' ga' out' rl' ra', (∃ th, op' = fs_mPictures_thrown op th) ∧ (∀ k, k < no → isB (out' k)) ∧ ((¬ F = 0 ∧ ex_Ref_page N or op nu ol gl ga g fs sp sl wr br wb bb bl md no out rl ra oJ pgs f pc lc (nI p) = some (fs_Ref_fault (fs_Ref_comeTo or (nI (cm + 1))) (nI F), op', ol', gl', ga', out', rl', ra', oJ, pgs, f, pc, lc)) ∨
      (F = 0 ∧ mB no (endB B) out' ∧ ex_Ref_page N or op nu ol gl ga g fs sp sl wr br wb bb bl md no out rl ra oJ pgs f pc lc (nI p) = (ex_Ref_add N (fs_Ref_comeTo or (nI (cm + 1))) oJ ol' no out' f pgs pc lc (nI w) (iI (vH h g E)) (iI (fnA h g E 8)) (iI (fnA h g E 9)) (lN ((endB B).length / 8))).bind (fun u => some (u.1, op', ol', gl', ga', out', rl', ra', u.2.1, u.2.2.2.1, u.2.2.1, u.2.2.2.2.1, u.2.2.2.2.2)))) := by
  have rS := vS_r hn
  have h4 : vH h g E ≤ 20000 := hn.2.2.2.1
  have ofj (X : ob_mPictures) (hX : fd_mPictures_pages X = nI n) (j : Nat) (hj : j < 12) : ex_mPictures_of N X nu (nI p) (nI j) = some (fs_mPictures_thrown X 0, lI (nuA h g E j)) := of_m hX hn40 hpn (by omega) (hnu j hj)
  have o0 : ex_mPictures_of N op nu (nI p) 0 = some (fs_mPictures_thrown op 0, lI (w : Int)) := (ofj op hp 0 (by omega)).trans (by rw [show nuA h g E 0 = (w : Int) from hW])
  have o1 : ex_mPictures_of N (fs_mPictures_thrown op 0) nu (nI p) 1 = some (fs_mPictures_thrown op 0, lI (vH h g E)) := ofj (fs_mPictures_thrown op 0) hp 1 (by omega)
  have o5 : ex_mPictures_of N (fs_mPictures_thrown op 0) nu (nI p) 5 = some (fs_mPictures_thrown op 0, lI (nuA h g E 5)) := ofj (fs_mPictures_thrown op 0) hp 5 (by omega)
  have o6 : ex_mPictures_of N (fs_mPictures_thrown op 0) nu (nI p) 6 = some (fs_mPictures_thrown op 0, lI (vS h g E)) := ofj (fs_mPictures_thrown op 0) hp 6 (by omega)
  have c3 : ¬ nI cm = (300 : Int32) := mt (nI_eq (b := 300) (by omega) (by omega)).mp (by omega)
  have c : (lI (w : Int)).toInt32 ≤ (10000 : Int32) := by rw [lI_i]; exact (iI_le (b := 10000) (by omega) (by omega)).mpr (by omega)
  obtain ⟨a2, l2, b1, b2⟩ := sm_mbegin (N := N) (o := ol) (a := ga) (l := gl) (by omega) hw
  have hlen0 : ([] : List Bool).length + 10001000 * (20000 * (vS h g E).toNat) < 2 ^ 60 :=
    Nat.lt_of_le_of_lt (m := 10001000 * (20000 * 20000)) (by rw [List.length_nil, Nat.zero_add]; exact Nat.mul_le_mul_left _ (Nat.mul_le_mul_left _ (by omega))) (by decide)
  obtain ⟨out1, rl1, ra1, op1, ol1, ga1, gl1, t1, ⟨th, t2⟩, t3, t4, t5, t6⟩ := sl_m (N := N) (L := L) (a1 := fs_mPictures_thrown op 0) (a2 := fs_mPictures_thrown op 0) (a3 := fs_mPictures_thrown op 0) (a4 := fs_mPictures_thrown op 0) hN hT hR hno hL hG hn hn40 hpn hnu hf h8 hst hsp hw (vS h g E).toNat 0 N (fs_Ref_comeTo or (nI (cm + 1))) out rl ra (fs_mPictures_thrown op 0) (mSt (nI w) 0 ol.2.2) a2 l2 (fun _ => false) [] (by omega) (by omega) hfa hp rfl rfl hlen0 b2 (mB_nil hout)
  rw [← hF] at t1 t6
  rw [← hls, ← hB] at t4 t5
  have t1' : lp_Ref_page_99 N nu g fs sp sl wr br wb bb bl md no (nI p) (fs_mPictures_thrown op 0, lI (vS h g E)) (fs_mPictures_thrown op 0, lI (vH h g E)) (fs_mPictures_thrown op 0, lI (nuA h g E 5)) (fs_mPictures_thrown op 0, lI (w : Int)) N 0 (fs_Ref_comeTo or (nI (cm + 1))) out rl ra (fs_mPictures_thrown op 0) (mSt (nI w) 0 ol.2.2) a2 l2 = _ := t1
  unfold ex_Ref_page
  rw [hcm, if_neg c3, o0, Option.bind_some, o1, Option.bind_some, o5, Option.bind_some, o6, Option.bind_some, if_pos c, show nI cm + 1 = nI (cm + 1) from nI_add cm 1]
  simp only [show (lI (w : Int)).toInt32 = nI w from lI_i _, b1, Option.bind_some, t1']
  by_cases q : F = 0
  · rw [if_pos q]
    rw [if_pos (show fd_Ref_fault (fs_Ref_comeTo or (nI (cm + 1))) = 0 from hfa)]
    have hbl : B.length ≤ 10001000 * 20000 := by
      rw [hB]
      refine Nat.le_trans (linesB_length w hw ls _ []) ?_
      rw [List.length_nil, Nat.zero_add]
      refine Nat.mul_le_mul_left _ ?_
      have := pgZ_all (w := w) hn (hF ▸ q)
      rw [← hls] at this
      omega
    have eol := mst_eq (t6 q) t5
    obtain ⟨out2, e1, e2⟩ := sm_mend (N := N) (w := nI w) (r := ol1.2.2) (B := B) (by omega) hno (Nat.lt_of_le_of_lt (Nat.add_le_add_right hbl 100) (by decide)) t4
    rw [← eol] at e1
    have hp1 : fd_mPictures_pages op1 = nI n := by rw [t2]; exact hp
    have f8 : ex_mPictures_of N op1 nu (nI p) 8 = some (fs_mPictures_thrown op1 0, lI (vlA h g E 8 0 300)) := ofj op1 hp1 8 (by omega)
    have f9 : ex_mPictures_of N (fs_mPictures_thrown op1 0) nu (nI p) 9 = some (fs_mPictures_thrown op1 0, lI (vlA h g E 8 1 1)) := ofj (fs_mPictures_thrown op1 0) hp1 9 (by omega)
    have f10 : ex_mPictures_of N (fs_mPictures_thrown op1 0) nu (nI p) 10 = some (fs_mPictures_thrown op1 0, lI (vlA h g E 9 0 300)) := ofj (fs_mPictures_thrown op1 0) hp1 10 (by omega)
    have f11 : ex_mPictures_of N (fs_mPictures_thrown op1 0) nu (nI p) 11 = some (fs_mPictures_thrown op1 0, lI (vlA h g E 9 1 1)) := ofj (fs_mPictures_thrown op1 0) hp1 11 (by omega)
    rw [f8, Option.bind_some, f9, Option.bind_some, fn_m hn.2.2.2.2.2.2.2.2.2.2.2.1, Option.bind_some, f10, Option.bind_some, f11, Option.bind_some, fn_m hn.2.2.2.2.2.2.2.2.2.2.2.2, Option.bind_some, e1, Option.bind_some, lI_i]
    exact ⟨fs_mPictures_thrown op1 0, mSt (nI w) (endB B).length ol1.2.2, gl1, ga1, out2, rl1, ra1, ⟨0, by rw [t2]⟩, e2.1, Or.inr ⟨q, e2, rfl⟩⟩
  · rw [if_neg q]
    have hnf : ¬ fd_Ref_fault (fs_Ref_fault (fs_Ref_comeTo or (nI (cm + 1))) (nI F)) = 0 := by
      refine mt (nI_eq0 ?_).mp q
      have key : ∀ (r i : Nat), (pgZ h g E w r i).1 ≤ 18 := by
        intro r
        induction r with
        | zero => intro i; exact Nat.zero_le _
        | succ r ih =>
          intro i
          unfold pgZ
          split
          · exact ih _
          · exact stZ_r stL_r
      have := key (vS h g E).toNat 0
      omega
    rw [if_neg hnf]
    exact ⟨op1, ol1, gl1, ga1, out1, rl1, ra1, ⟨th, t2⟩, t4.1, Or.inl ⟨q, rfl⟩⟩
theorem mdA_g {bit bit' : Nat → Bool} {nb : Nat} (hb : ∀ i, i < nb → bit i = bit' i) (l : Nat → Nat) (m : Nat) : ∀ f v i, i ≤ nb → mdA bit nb l m f v i = mdA bit' nb l m f v i := by
  intro f
  induction f with
  | zero => intro v i hi; rfl
  | succ f ih =>
    intro v i hi
    unfold mdA
    by_cases q : i = nb
    · rw [if_pos q, if_pos q]
    · rw [if_neg q, if_neg q, hb i (by omega), ih _ _ (by omega)]
theorem rnA_g {bit bit' : Nat → Bool} {nb : Nat} (hb : ∀ i, i < nb → bit i = bit' i) (lr lo lb : Nat → Nat) : ∀ f v i, i ≤ nb → rnA bit nb lr lo lb f v i = rnA bit' nb lr lo lb f v i := by
  intro f
  induction f with
  | zero => intro v i hi; rfl
  | succ f ih =>
    intro v i hi
    unfold rnA
    by_cases q : i = nb
    · rw [if_pos q, if_pos q]
    · rw [if_neg q, if_neg q, hb i (by omega), ih _ _ (by omega)]
theorem rrA_g {bit bit' : Nat → Bool} {nb : Nat} (hb : ∀ i, i < nb → bit i = bit' i) (lr lo lb : Nat → Nat) (w x0 : Nat) : ∀ k s i, i ≤ nb → rrA bit nb lr lo lb w x0 k s i = rrA bit' nb lr lo lb w x0 k s i := by
  intro k
  induction k with
  | zero => intro s i hi; rfl
  | succ k ih =>
    intro s i hi
    have h1 := (rnA_b bit' nb lr lo lb 14 1 i hi).2.1
    unfold rrA
    rw [rnA_g hb lr lo lb 14 1 i hi, ih _ _ h1]
theorem rrA_n (bit : Nat → Bool) (nb : Nat) (lr lo lb : Nat → Nat) (w x0 : Nat) : ∀ k s i, i ≤ nb → (rrA bit nb lr lo lb w x0 k s i).1 ≤ nb := by
  intro k
  induction k with
  | zero => intro s i hi; exact hi
  | succ k ih =>
    intro s i hi
    have h1 := (rnA_b bit nb lr lo lb 14 1 i hi).2.1
    unfold rrA
    split
    · exact h1
    split
    · exact h1
    split
    · exact h1
    · exact ih _ _ h1
theorem runA_g {bit bit' : Nat → Bool} {nb : Nat} (hb : ∀ i, i < nb → bit i = bit' i) (w : Nat) (c : Bool) (x0 i : Nat) (hi : i ≤ nb) : runA bit nb w c x0 i = runA bit' nb w c x0 i := rrA_g hb _ _ _ _ _ _ _ _ hi
theorem pcA_g {bit bit' : Nat → Bool} {nb : Nat} (hb : ∀ i, i < nb → bit i = bit' i) (w : Nat) (up : Nat → Bool) (s : Nat) (c : Bool) (i : Nat) (hi : i ≤ nb) : pcA bit nb w up s c i = pcA bit' nb w up s c i := by
  have h1 : modA bit nb s i = modA bit' nb s i := mdA_g hb _ _ _ _ _ hi
  have h2 : (modA bit' nb s i).1 ≤ nb := (mdA_b bit' nb _ _ _ _ i hi).2.1
  have h3 : endA bit nb (modA bit' nb s i).1 = endA bit' nb (modA bit' nb s i).1 := mdA_g hb _ _ _ _ _ h2
  unfold pcA
  rw [h1, h3]
  have h4 : ∀ m : Nat × Int, m.1 ≤ nb → pcB bit nb w up s c m = pcB bit' nb w up s c m := by
    intro m hm
    have e1 := runA_g hb w c (s - 1) m.1 hm
    have e2 : (runA bit' nb w c (s - 1) m.1).1 ≤ nb := rrA_n _ _ _ _ _ _ _ _ _ _ hm
    have e3 := runA_g hb w (!c) (s - 1 + (runA bit' nb w c (s - 1) m.1).2.1) (runA bit' nb w c (s - 1) m.1).1 e2
    unfold pcB
    rw [e1, e3]
  rw [h4 _ h2]
theorem lnA_g {bit bit' : Nat → Bool} {nb : Nat} (hb : ∀ i, i < nb → bit i = bit' i) (w : Nat) (up : Nat → Bool) : ∀ (k s : Nat) (c : Bool) (i : Nat) (p : Nat → Bool), i ≤ nb → lnA bit nb w up k s c i p = lnA bit' nb w up k s c i p := by
  intro k
  induction k with
  | zero => intro s c i p hi; rfl
  | succ k ih =>
    intro s c i p hi
    unfold lnA
    by_cases q : w < s
    · rw [if_pos q, if_pos q]
    · rw [if_neg q, if_neg q, pcA_g hb w up s c i hi, ih _ _ _ _ (pcA_b hi (by omega)).1]
theorem lineA_g {bit bit' : Nat → Bool} {nb : Nat} (hb : ∀ i, i < nb → bit i = bit' i) (w : Nat) (up : Nat → Bool) (i : Nat) (hi : i ≤ nb) : lineA bit nb w up i = lineA bit' nb w up i := lnA_g hb _ _ _ _ _ _ _ hi
theorem pkA_g {bit bit' : Nat → Bool} {nb : Nat} (hb : ∀ i, i < nb → bit i = bit' i) (w : Nat) (v : Bool) : ∀ (r i : Nat) (up : Nat → Bool), i ≤ nb → pkA bit nb w v r i up = pkA bit' nb w v r i up := by
  intro r
  induction r with
  | zero => intro i up hi; rfl
  | succ r ih =>
    intro i up hi
    have h1 := (ln_b (bit := bit') (w := w) (up := up) hi).1
    unfold pkA
    rw [lineA_g hb w up i hi, ih _ _ h1]
theorem stL_g {h : Bool} {g g' : Nat → Int32} {L w i : Nat} {E : Nat → Option Nat} (hg : agree L g g') (hst : stA h g' L E i) : pkA (sbit (tuA h g' E) g (vlA h g' E 5 i 0).toNat) (8 * (vlA h g' E 7 i 0).toNat) w (inA h g' E) (vN h g' E i).toNat 0 (fun _ => false) = stL h g' E w i := by
  have r5 : 0 ≤ vlA h g' E 5 i 0 := (vlA_r (by omega)).1
  have r7 : 0 ≤ vlA h g' E 7 i 0 := (vlA_r (by omega)).1
  have hs := hst.2
  refine pkA_g (fun j hj => ?_) w _ _ _ _ (Nat.zero_le _)
  unfold sbit
  rw [hg _ (by omega)]
theorem endB_len (B : List Bool) : (endB B).length = B.length + 24 + (8 - (B.length + 24) % 8) % 8 := by
  unfold endB; rw [padB_length, List.length_append, List.length_append, WB4097]
theorem fl_keep {P K S : Nat} {of : ob_OutFile} {t g g1 f pg : Nat → Int32} {oP : ob_mPictures} (h : flR P K S of t g oP f pg) (e : ∀ i, i < S → g1 i = g i) : flR P K S of t g1 oP f pg := by
  obtain ⟨f1, f2, f3, f4, f5, f6, f7, f8⟩ := h
  exact ⟨f1, f2, f3, f4, f5, fun i hi => (e i hi).trans (f6 i hi), f7, f8⟩
theorem pg_join {N L n p w cm sb no S P K : Nat} {o : ob_PictureFile} {om : ob_Main} {g g' ty ct pp gby ga gl tr gA gL ft : Nat → Int32} {rd : ob_LineReader} {oc : ob_Coder} {or : ob_Ref} {op : ob_mPictures} {ol : ob_mLines} {oJ : ob_mPictures} {nu : Nat → Int64} {fs sp sl ra wr br wb bb bl md rl gl2 ga2 out f pgs pc lc : Nat → Int32} {h : Bool} {E : Nat → Option Nat} (hN : 2 ^ 22 < N)
    (ho : o.1 = nI L) (hh : o.2.1 = orI h) (hL : L ≤ 65536) (hg : agree L g g') (hC : enC h g' L E ty ct pp) (hG : enG h g' L E) (hn : nbA h g' E) (h5 : cnA h g' E 5 = vS h g' E) (h7 : cnA h g' E 7 = vS h g' E) (hst : ∀ i, i < (vS h g' E).toNat → stA h g' L E i) (hW : vlA h g' E 0 0 0 = (w : Int)) (htr : agree 1024 tr trT)
    (hT : mTab wr br wb bb bl md) (hR : rdT wr br wb bb bl md) (hno : 60000 ≤ no) (hno2 : no < 100000) (hp : fd_mPictures_pages op = nI n) (hn40 : n ≤ 40) (hpn : p < n) (hnu : ∀ j, j < 12 → nu (13 * p + j) = lI (nuA h g' E j)) (hf : fs p = nI sb) (h8 : (sb : Int) + vS h g' E ≤ 8192) (hsp : ∀ i, i < (vS h g' E).toNat → sp (sb + i) = iI (vlA h g' E 5 i 0) ∧ sl (sb + i) = iI (vlA h g' E 7 i 0)) (hcm : fd_Ref_comeTo or = nI cm) (hcm2 : cm < 300) (hfa : fd_Ref_fault or = 0) (hout : ∀ k, k < no → isB (out k))
    (hfl : flR P K S (nI S, nI P, nI K) ft gby oJ f pgs) :
    ∃ (code P' K' S' : Nat), ∃ oc' g1 ga' gl' rd' gA' gL' t' op' ol' gl2' ga2' out' rl' ra' oJ' pgs' f' pc' lc', code < 100 ∧ ex_Main_printPicture N om o g 11 ty 11 ct 11 pp oc (nI S, nI P, nI K) gby ga gl rd tr gA gL ft = some (oc', (nI S', nI P', nI K'), g1, ga', gl', rd', gA', gL', t', nI code) ∧ ex_Ref_page N or op nu ol gl2 ga2 g' fs sp sl wr br wb bb bl md no out rl ra oJ pgs f pc lc (nI p) = some (fs_Ref_fault (fs_Ref_comeTo or (nI (cm + 1))) (nI code), op', ol', gl2', ga2', out', rl', ra', oJ', pgs', f', pc', lc') ∧ flR P' K' S' (nI S', nI P', nI K') t' g1 oJ' f' pgs' ∧ (∃ th, op' = fs_mPictures_thrown op th) ∧ (∀ k, k < no → isB (out' k)) := by
  obtain ⟨f1, f2, f3, f4, f5, f6, f7, f8⟩ := hfl
  have hW1 := hn.1
  have hH : 1 ≤ vH h g' E ∧ vH h g' E ≤ 20000 := ⟨hn.2.2.1, hn.2.2.2.1⟩
  by_cases hw : w ≤ 10000
  · obtain ⟨F, hF⟩ : ∃ F, F = (pgZ h g' E w (vS h g' E).toNat 0).1 := ⟨_, rfl⟩
    obtain ⟨ls, hls⟩ : ∃ ls, ls = (pgZ h g' E w (vS h g' E).toNat 0).2 := ⟨_, rfl⟩
    obtain ⟨B, hB⟩ : ∃ B, B = linesB w ls (fun _ => false) [] := ⟨_, rfl⟩
    obtain ⟨oc', ga', gl', rd', gA', gL', g1, hlow, hc⟩ := pp_c (S := S) (P := P) (K := K) (om := om) (gby := gby) (ga := ga) (gl := gl) (or := rd) (oc := oc) (gA := gA) (gL := gL) (ft := ft) (by omega : 65550 ≤ N) ho hh hL hg hC hG hn h5 h7 hst (fun i hi => stL_g hg (hst i hi)) hW hw (by omega) f2 (by omega) htr hF hls hB
    obtain ⟨op', ol', gl2', ga2', out', rl', ra', hop, hisB, hm⟩ := rp_c (ol := ol) (oJ := oJ) (ra := ra) (rl := rl) (gl := gl2) (ga := ga2) (f := f) (pgs := pgs) (pc := pc) (lc := lc) (by omega : 65550 ≤ N) hT hR hno2 hL hG hn hp hn40 hpn hnu hf h8 hst hsp hcm hcm2 hfa hW hw hout hF hls hB
    have hlow' : ∀ i, i < S → g1 i = gby i := fun i hi => (hlow i (by omega)).trans (g0_low hi)
    have hfl : flR P K S (nI S, nI P, nI K) ft gby oJ f pgs := ⟨f1, f2, f3, f4, f5, f6, f7, f8⟩
    have hF18 : F ≤ 18 := by
      have key : ∀ (r i : Nat), (pgZ h g' E w r i).1 ≤ 18 := by
        intro r
        induction r with
        | zero => intro i; exact Nat.zero_le _
        | succ r ih =>
          intro i
          unfold pgZ
          split
          · exact ih _
          · exact stZ_r stL_r
      rw [hF]; exact key _ _
    rcases hc with ⟨q, e1⟩ | ⟨q, z1, z2, z3, e1⟩ | ⟨q, z1, e1⟩
    · rcases hm with ⟨_, e2⟩ | ⟨q2, _⟩
      · exact ⟨F, P, K, S, oc', g1, ga', gl', rd', gA', gL', ft, op', ol', gl2', ga2', out', rl', ra', oJ, pgs, f, pc, lc, by omega, e1, e2, fl_keep hfl hlow', hop, hisB⟩
      · exact absurd q2 q
    · rcases hm with ⟨q2, _⟩ | ⟨_, hm3, e2⟩
      · exact absurd q q2
      · have hlen := endB_len B
        obtain ⟨nn, hnn⟩ : ∃ nn, nn = (endB B).length / 8 := ⟨_, rfl⟩
        rw [← hnn] at z2 z3 e1 e2
        have hn8 : (endB B).length = 8 * nn := by omega
        have hfn := fnA_r h g' E 8
        have hfn9 := fnA_r h g' E 9
        have hll : (ls.length : Int) = vH h g' E := by rw [hls]; exact pgZ_all hn (hF ▸ q)
        have hbytes : ∀ i, i < nn → out' i = byI (bvf (gb (endB B)) (8 * i) 8) := by
          intro i hi
          have := hm3.2 i (by omega) (by omega)
          have hmin : min 8 ((endB B).length - 8 * i) = 8 := by omega
          rw [hmin, Nat.sub_self, Nat.pow_zero, Nat.div_one] at this
          rw [← this]; exact isB_byI (hm3.1 i (by omega))
        obtain ⟨th, a1, a2', a3, a4, a5, a6, a7, a8, a9, r', rfl⟩ := f5
        have hadd := m_add (N := N) (P := P) (K := K) (S := S) (n := nn) (w := w) (h := (vH h g' E).toNat) (x := (fnA h g' E 8).toNat) (y := (fnA h g' E 9).toNat) (no := no) (oR := fs_Ref_comeTo or (nI (cm + 1))) (ol := ol') (out := out') (f := f) (pg := pgs) (pl := pc) (ls := lc) (th := th) (a1 := a1) (a2 := a2') (a3 := a3) (a4 := a4) (a5 := a5) (a6 := a6) (a7 := a7) (a8 := a8) (a9 := a9) (r := r') (by omega) z1 f3 (by omega) (by omega) (by omega) (by omega) (by omega) (by omega) (by omega) (by omega) (by omega) (by omega) (by omega) (by omega) (fun i hi => hm3.1 i (by omega))
        have hFG : agree (S + S % 2 + nn) g1 (bw (bw f S (le 0 (S % 2))) (S + S % 2) (seg out' 0 nn)) := by
          intro i hi
          rw [bw_get, seg_length]
          by_cases qq : S + S % 2 ≤ i ∧ i < S + S % 2 + nn
          · rw [if_pos (by omega)]
            have := z3 (i - (S + S % 2)) (by omega)
            rw [show S + S % 2 + (i - (S + S % 2)) = i by omega] at this
            rw [this, ← hbytes (i - (S + S % 2)) (by omega)]
            unfold seg
            rw [List.getD_eq_getElem?_getD, List.getElem?_map, List.getElem?_range (by omega)]
            show out' (i - (S + S % 2)) = out' (0 + (i - (S + S % 2)))
            congr 1; omega
          · rw [if_neg (by omega), hlow i (by omega), if_pos (by omega)]
            have := agree_bw f6 S (le 0 (S % 2)) (Nat.le_refl _)
            rw [le_length] at this
            exact this i (by omega)
        have hcd : cdd w nn ls out' := ⟨by rw [hnn, hB], fun i hi => by rw [← hB]; exact hbytes i hi⟩
        have hnext := fl_next (S := S) (K := K) (w := w) (h := (vH h g' E).toNat) (x := (fnA h g' E 8).toNat) (y := (fnA h g' E 9).toNat) (th := 0) (r := r') z1 f3 rfl (by omega) hFG f7 (f := f) (ls := ls) ⟨by omega, by omega⟩ ⟨by omega, by omega⟩ (by omega) f8 (fun i hi => by rw [bw_low _ _ _ _ (by omega), bw_low _ _ _ _ hi]) (cdd_congr hcd (fun i hi => (hFG _ (by omega)).symm.trans (by rw [z3 i hi, ← hbytes i hi])))
        have eH : iI (vH h g' E) = nI (vH h g' E).toNat := iI_nat (by omega)
        have e8 : iI (fnA h g' E 8) = nI (fnA h g' E 8).toNat := iI_nat (by omega)
        have e9 : iI (fnA h g' E 9) = nI (fnA h g' E 9).toNat := iI_nat (by omega)
        rw [eH, e8, e9] at e1 e2
        rw [hadd] at e2
        have efa : fs_Ref_fault (fs_Ref_comeTo or (nI (cm + 1))) (nI 0) = fs_Ref_comeTo or (nI (cm + 1)) := by
          rw [show nI 0 = fd_Ref_fault (fs_Ref_comeTo or (nI (cm + 1))) from hfa.symm]
        refine ⟨0, P + 1, _, _, oc', _, ga', gl', rd', gA', gL', _, op', ol', gl2', ga2', out', rl', ra', _, _, _, upd pc 0 (nI (S + S % 2)), upd lc 0 (nI nn), by omega, e1, ?_, hnext, hop, hisB⟩
        rw [efa, e2]
        rfl
    · rcases hm with ⟨q2, _⟩ | ⟨_, hm3, e2⟩
      · exact absurd q q2
      · have hbl : B.length ≤ 10001000 * 20000 := by
          rw [hB]
          refine Nat.le_trans (linesB_length w hw ls _ []) ?_
          rw [List.length_nil, Nat.zero_add]
          refine Nat.mul_le_mul_left _ ?_
          have := pgZ_all (w := w) hn (hF ▸ q)
          rw [← hls] at this
          omega
        have hlen := endB_len B
        have hl60 : (endB B).length / 8 < 2 ^ 60 := by
          have : B.length < 2 ^ 40 := Nat.lt_of_le_of_lt hbl (by decide)
          clear hbl
          omega
        have hadd := m_addF (N := N) (oR := fs_Ref_comeTo or (nI (cm + 1))) (ol := ol') (no := no) (out := out') (f := f) (pg := pgs) (pl := pc) (ls := lc) (w := nI w) (h := iI (vH h g' E)) (x := iI (fnA h g' E 8)) (y := iI (fnA h g' E 9)) f5 f2 f4 hl60 z1
        rw [hadd] at e2
        exact ⟨20, P, K, S, oc', g1, ga', gl', rd', gA', gL', ft, op', ol', gl2', ga2', out', rl', ra', oJ, pgs, f, pc, lc, by omega, e1, e2, fl_keep hfl hlow', hop, hisB⟩
  · have e1 := pp_19 (om := om) (gb := gby) (ga := ga) (gl := gl) (or := rd) (oc := oc) (of := (nI S, nI P, nI K)) (tr := tr) (gA := gA) (gL := gL) (ft := ft) (by omega : 65550 ≤ N) ho hh hL hg hC hG hn hW (by omega)
    have e2 := rp_19 (N := N) (ol := ol) (oJ := oJ) (fs := fs) (sp := sp) (sl := sl) (ra := ra) (wr := wr) (br := br) (wb := wb) (bb := bb) (bl := bl) (md := md) (rl := rl) (gl := gl2) (ga := ga2) (out := out) (f := f) (pgs := pgs) (pc := pc) (lc := lc) (no := no) hn hp hn40 hpn hnu hcm hcm2 hW (by omega)
    exact ⟨19, P, K, S, oc, gby, ga, gl, rd, gA, gL, ft, fs_mPictures_thrown op 0, ol, gl2, ga2, out, rl, ra, oJ, pgs, f, pc, lc, by omega, e1, e2, ⟨f1, f2, f3, f4, f5, f6, f7, f8⟩, ⟨0, rfl⟩, hout⟩
theorem nb_r {h : Bool} {g : Nat → Int32} {P : Nat} : 0 ≤ nxA h g P ∧ nxA h g P < 4294967296 := by
  have := qFour_r h g (P + 2 + 12 * (qTwo h g P).toNat)
  unfold nxA; omega
theorem hs_p {N : Nat} {o : ob_PictureFile} {x : Int} (hx : o.2.2.1 = lI x) (h : 0 ≤ x ∧ x < 4294967296) : ex_PictureFile_hasPage N o = some (if x = 0 then 0 else 1) := by
  unfold ex_PictureFile_hasPage
  rw [show fd_PictureFile_next o = lI x from hx]
  have e : lg_cmp (lI x) 0 = 0 ↔ x = 0 := lcmp_eq (b := 0) (by omega) (by omega)
  by_cases q : x = 0
  · rw [if_pos (e.mpr q), if_pos q]
  · rw [if_neg (mt e.mp q), if_neg q]
theorem rp_21 {N no : Nat} {or : ob_Ref} {op : ob_mPictures} {ol : ob_mLines} {oJ : ob_mPictures} {nu : Nat → Int64} {fs sp sl g ra wr br wb bb bl md rl gl ga out f pgs pc lc : Nat → Int32} {v : Int32} (hcm : fd_Ref_comeTo or = 300) :
    ex_Ref_page N or op nu ol gl ga g fs sp sl wr br wb bb bl md no out rl ra oJ pgs f pc lc v = some (fs_Ref_fault or 21, op, ol, gl, ga, out, rl, ra, oJ, pgs, f, pc, lc) := by
  unfold ex_Ref_page
  rw [if_pos hcm]
def pFin (e : Int32 × ob_Main × ob_Coder × ob_LineReader × ob_OutFile × (Nat → Int32) × (Nat → Int32) × (Nat → Int32) × (Nat → Int32) × (Nat → Int32) × (Nat → Int32) × ob_PictureFile × (Nat → Int32) × (Nat → Int32) × (Nat → Int32)) : Option rs_Main_printPictures := some (e.2.1, e.2.2.2.2.2.2.2.2.2.2.2.1, e.2.2.2.2.2.2.2.2.2.2.2.2.1, e.2.2.2.2.2.2.2.2.2.2.2.2.2.1, e.2.2.2.2.2.2.2.2.2.2.2.2.2.2, e.2.2.1, e.2.2.2.1, e.2.2.2.2.1, e.2.2.2.2.2.1, e.2.2.2.2.2.2.1, e.2.2.2.2.2.2.2.1, e.2.2.2.2.2.2.2.2.1, e.2.2.2.2.2.2.2.2.2.1, e.2.2.2.2.2.2.2.2.2.2.1, e.1)
theorem li_rd {h : Bool} {g : Nat → Int32} {L P : Nat} (hr : (rdA h g L P).1 = 0) : 8 ≤ P := by
  unfold rdA at hr
  by_cases q : liA h g L P
  · exact q.1
  · rw [if_neg q] at hr; exact absurd hr (show ¬ (2 : Int) = 0 by decide)
theorem lp_pages {N L n no P0 : Nat} {g g' tr wr br wb bb bl md : Nat → Int32} {nu : Nat → Int64} {fs sp sl en : Nat → Int32} {oU oV : ob_mPictures} {h : Bool} (hN : 2 ^ 22 < N) (hL : L ≤ 65536) (hg : agree L g g') (h0 : P0 < 4294967296) (hgo : (goA h g' L P0 40 0).1 = 0) (hn : n = (goA h g' L P0 40 0).2) (hA : arR h g' L P0 n nu fs sp sl) (htr : agree 1024 tr trT) (hT : mTab wr br wb bb bl md) (hR : rdT wr br wb bb bl md) (hno : 60000 ≤ no) (hno2 : no < 100000) :
    ∀ (r p f1 f2 cm P K S : Nat) (o : ob_PictureFile) (om : ob_Main) (ty ct pp gby ga gl gA gL ft : Nat → Int32) (rd : ob_LineReader) (oc : ob_Coder) (or : ob_Ref) (op : ob_mPictures) (ol : ob_mLines) (oJ : ob_mPictures) (ra rl gl2 ga2 out f pgs pc lc : Nat → Int32), p + r = n → r < f1 → r < f2 → o.1 = nI L → o.2.1 = orI h → o.2.2.1 = lI (if p < n then (plS h g' P0 p : Int) else 0) → fd_Main_pictures om = nI cm → fd_Ref_comeTo or = nI cm → cm ≤ 300 → fd_Ref_fault or = 0 → fd_mPictures_pages op = nI n → (∀ k, k < no → isB (out k)) → flR P K S (nI S, nI P, nI K) ft gby oJ f pgs →
    ∃ (code cm' P' K' S' : Nat), ∃ o' ty' ct' pp' oc' rd' ga' gl' gby' ft' gA' gL' op' ol' gl2' ga2' out' rl' ra' oJ' pgs' f' pc' lc', code < 100 ∧ cm' ≤ 300 ∧
      dk_elim (lp_Main_printPictures_11 N g 11 11 11 tr f1 (nI p) 0 om oc rd (nI S, nI P, nI K) ga gl gby ft gA gL o ty ct pp) pFin (fun r => some r) = some (fs_Main_pictures om (nI cm'), o', ty', ct', pp', oc', rd', (nI S', nI P', nI K'), ga', gl', gby', ft', gA', gL', nI code) ∧
      lp_Ref_picture_64c2 N wr br wb bb bl md no (oU, nu, fs, sp, sl, en, nI n) (g', oV) f2 (nI p) or ol oJ pgs gl2 ga2 out rl ra f pc lc op = some (fs_Ref_fault (fs_Ref_comeTo or (nI cm')) (nI code), ol', oJ', pgs', gl2', ga2', out', rl', ra', f', pc', lc', op') ∧ flR P' K' S' (nI S', nI P', nI K') ft' gby' oJ' f' pgs' ∧ (∃ th, op' = fs_mPictures_thrown op th) ∧ (∀ k, k < no → isB (out' k)) := by
  have hgr := goA_r (h := h) (g := g') (L := L) (P0 := P0) 40 0
  rw [← hn] at hgr
  have hq := goA_0 40 0 hgo
  rw [← hn] at hq
  intro r
  induction r with
  | zero =>
    intro p f1 f2 cm P K S o om ty ct pp gby ga gl gA gL ft rd oc or op ol oJ ra rl gl2 ga2 out f pgs pc lc hpr hf1 hf2 o1 o2 o3 m1 m2 hcm hfa hpg hout hfl
    obtain ⟨f1, rfl⟩ : ∃ k, f1 = k + 1 := ⟨f1 - 1, by omega⟩
    obtain ⟨f2, rfl⟩ : ∃ k, f2 = k + 1 := ⟨f2 - 1, by omega⟩
    refine ⟨0, cm, P, K, S, o, ty, ct, pp, oc, rd, ga, gl, gby, ft, gA, gL, op, ol, gl2, ga2, out, rl, ra, oJ, pgs, f, pc, lc, by omega, hcm, ?_, ?_, hfl, ⟨fd_mPictures_thrown op, rfl⟩, hout⟩
    · unfold lp_Main_printPictures_11
      rw [← m1]
      by_cases q40 : (40 : Int32) ≤ nI p
      · rw [if_pos q40]; rfl
      · rw [if_neg q40, if_pos rfl]
        have hnp : ¬ p < n := by omega
        rw [if_neg hnp] at o3
        have e := hs_p (N := N) o3 (by omega)
        rw [if_pos rfl] at e
        rw [e, Option.bind_some, if_pos rfl]; rfl
    · unfold lp_Ref_picture_64c2
      rw [if_pos (show nI n ≤ nI p from (nI_leI (by omega) (by omega)).mpr (by omega)), ← m2, show nI 0 = fd_Ref_fault or from hfa.symm]
  | succ r ih =>
    intro p f1 f2 cm P K S o om ty ct pp gby ga gl gA gL ft rd oc or op ol oJ ra rl gl2 ga2 out f pgs pc lc hpr hf1 hf2 o1 o2 o3 m1 m2 hcm hfa hpg hout hfl
    obtain ⟨f1, rfl⟩ : ∃ k, f1 = k + 1 := ⟨f1 - 1, by omega⟩
    obtain ⟨f2, rfl⟩ : ∃ k, f2 = k + 1 := ⟨f2 - 1, by omega⟩
    have hpn : p < n := by omega
    obtain ⟨z1, z2, z3⟩ := hq p (by omega) hpn
    have h8 := li_rd z1
    have hpl := plS_r (h := h) (g := g') (p := p) h0
    rw [if_pos hpn] at o3
    have ehs := hs_p (N := N) o3 (by omega)
    rw [if_neg (by omega)] at ehs
    obtain ⟨ty', ct', pp', hC, erd⟩ := pg_c (N := N) (nb := 65536) (g := g) (ty := ty) (ct := ct) (pp := pp) (by omega) o1 o2 o3 hpl hL hg (Nat.le_refl _)
    have hC := hC z1
    rw [if_pos z1, z1] at erd
    have q40 : ¬ (40 : Int32) ≤ nI p := mt (nI_leI (a := 40) (by omega) (by omega)).mp (by omega)
    have qn : ¬ nI n ≤ nI p := mt (nI_leI (by omega) (by omega)).mp (by omega)
    obtain ⟨o9, ho9⟩ : ∃ o9 : ob_PictureFile, o9 = (o.1, o.2.1, lI (nxA h g' (plS h g' P0 p)), o.2.2.2) := ⟨_, rfl⟩
    rw [← ho9] at erd
    by_cases q300 : cm = 300
    · subst q300
      have c3 : ¬ nI 300 < (300 : Int32) := mt (nI_ltI (b := 300) (by omega) (by omega)).mp (by omega)
      refine ⟨21, 300, P, K, S, o9, ty', ct', pp', oc, rd, ga, gl, gby, ft, gA, gL, op, ol, gl2, ga2, out, rl, ra, oJ, pgs, f, pc, lc, by omega, by omega, ?_, ?_, hfl, ⟨fd_mPictures_thrown op, rfl⟩, hout⟩
      · unfold lp_Main_printPictures_11
        rw [if_neg q40, if_pos rfl, ehs, Option.bind_some, if_neg (show ¬ (1 : Int32) = 0 by decide), erd, Option.bind_some, m1, if_neg c3, ← m1]
        rfl
      · unfold lp_Ref_picture_64c2
        rw [if_neg qn, if_pos hfa, rp_21 m2, Option.bind_some]
        obtain ⟨f2, rfl⟩ : ∃ k, f2 = k + 1 := ⟨f2 - 1, by omega⟩
        unfold lp_Ref_picture_64c2
        rw [← m2]
        by_cases q : nI n ≤ nI p + 1
        · rw [if_pos q]; rfl
        · rw [if_neg q, if_neg (show ¬ (21 : Int32) = 0 by decide)]; rfl
    · obtain ⟨hnb, h5, h7, h8192, hst⟩ := ckA_0 z2
      obtain ⟨hA1, hA2⟩ := hA
      obtain ⟨hA3, hA4⟩ := hA2 p hpn
      have hWp : vlA h g' (eSq h g' L P0 p) 0 0 0 = ((vlA h g' (eSq h g' L P0 p) 0 0 0).toNat : Int) := by have := hnb.1; omega
      have c3 : nI cm < (300 : Int32) := (nI_ltI (b := 300) (by omega) (by omega)).mpr (by omega)
      obtain ⟨om1, hom1⟩ : ∃ om1, om1 = fs_Main_pictures om (nI (cm + 1)) := ⟨_, rfl⟩
      obtain ⟨or1, hor1⟩ : ∃ or1, or1 = fs_Ref_comeTo or (nI (cm + 1)) := ⟨_, rfl⟩
      obtain ⟨code, P1, K1, S1, oc1, g1, ga1, gl1, rd1, gA1, gL1, t1, op1, ol1, gl21, ga21, out1, rl1, ra1, oJ1, pgs1, f1', pc1, lc1, hcode, ec, em, hfl1, ⟨th, hop1⟩, hout1⟩ := pg_join (N := N) (L := L) (n := n) (p := p) (sb := sbS h g' L P0 p) (o := o9) (om := om1) (ty := ty') (ct := ct') (pp := pp') (gby := gby) (ga := ga) (gl := gl) (tr := tr) (gA := gA) (gL := gL) (ft := ft) (rd := rd) (oc := oc) (or := or) (op := op) (ol := ol) (oJ := oJ) (ra := ra) (rl := rl) (gl2 := gl2) (ga2 := ga2) (out := out) (f := f) (pgs := pgs) (pc := pc) (lc := lc) hN (by rw [ho9]; exact o1) (by rw [ho9]; exact o2) hL hg hC rd_G hnb h5 h7 hst hWp htr hT hR hno hno2 hpg (by omega) hpn hA3 (hA1 p (by omega)) h8192 hA4 m2 (by omega) hfa hout hfl
      rw [← hor1] at em
      by_cases qc : code = 0
      · subst qc
        have hplS : plS h g' P0 (p + 1) = (nxA h g' (plS h g' P0 p)).toNat := rfl
        have hnx := nb_r (h := h) (g := g') (P := plS h g' P0 p)
        obtain ⟨code', cm', P', K', S', o', ty2, ct2, pp2, oc', rd', ga', gl', gby', ft', gA', gL', op', ol', gl2', ga2', out', rl', ra', oJ', pgs', f', pc', lc', i1, i2, i3, i4, i5, ⟨th', i6⟩, i7⟩ := ih (p + 1) f1 f2 (cm + 1) P1 K1 S1 o9 om1 ty' ct' pp' g1 ga1 gl1 gA1 gL1 t1 rd1 oc1 (fs_Ref_fault or1 (nI 0)) op1 ol1 oJ1 ra1 rl1 gl21 ga21 out1 f1' pgs1 pc1 lc1 (by omega) (by omega) (by omega) (by rw [ho9]; exact o1) (by rw [ho9]; exact o2) (by
            rw [ho9]
            show lI (nxA h g' (plS h g' P0 p)) = _
            congr 1
            by_cases qe : p + 1 < n
            · rw [if_pos qe, hplS]; omega
            · rw [if_neg qe]; exact z3.mpr (by omega)) (by rw [hom1]) (by rw [hor1]) (by omega) rfl (by rw [hop1]; exact hpg) hout1 hfl1
        refine ⟨code', cm', P', K', S', o', ty2, ct2, pp2, oc', rd', ga', gl', gby', ft', gA', gL', op', ol', gl2', ga2', out', rl', ra', oJ', pgs', f', pc', lc', i1, i2, ?_, ?_, i5, ⟨th', ?_⟩, i7⟩
        · unfold lp_Main_printPictures_11
          rw [if_neg q40, if_pos rfl, ehs, Option.bind_some, if_neg (show ¬ (1 : Int32) = 0 by decide), erd, Option.bind_some, m1, if_pos c3, show nI cm + 1 = nI (cm + 1) from nI_add cm 1, ← hom1, ec, Option.bind_some, show nI p + 1 = nI (p + 1) from nI_add p 1]
          rw [hom1] at i3 ⊢
          exact i3
        · unfold lp_Ref_picture_64c2
          rw [if_neg qn, if_pos hfa, em, Option.bind_some, show nI p + 1 = nI (p + 1) from nI_add p 1]
          rw [hor1] at i4 ⊢
          exact i4
        · rw [i6, hop1]
      · obtain ⟨f1, rfl⟩ : ∃ k, f1 = k + 1 := ⟨f1 - 1, by omega⟩
        obtain ⟨f2, rfl⟩ : ∃ k, f2 = k + 1 := ⟨f2 - 1, by omega⟩
        have qc' : ¬ nI code = 0 := mt (nI_eq (b := 0) (by omega) (by omega)).mp qc
        refine ⟨code, cm + 1, P1, K1, S1, o9, ty', ct', pp', oc1, rd1, ga1, gl1, g1, t1, gA1, gL1, op1, ol1, gl21, ga21, out1, rl1, ra1, oJ1, pgs1, f1', pc1, lc1, hcode, by omega, ?_, ?_, hfl1, ⟨th, hop1⟩, hout1⟩
        · unfold lp_Main_printPictures_11
          rw [if_neg q40, if_pos rfl, ehs, Option.bind_some, if_neg (show ¬ (1 : Int32) = 0 by decide), erd, Option.bind_some, m1, if_pos c3, show nI cm + 1 = nI (cm + 1) from nI_add cm 1, ← hom1, ec, Option.bind_some]
          unfold lp_Main_printPictures_11
          by_cases q : (40 : Int32) ≤ nI p + 1
          · rw [if_pos q, hom1]; rfl
          · rw [if_neg q, if_neg qc', hom1]; rfl
        · unfold lp_Ref_picture_64c2
          rw [if_neg qn, if_pos hfa, em, Option.bind_some]
          unfold lp_Ref_picture_64c2
          rw [← hor1]
          by_cases q : nI n ≤ nI p + 1
          · rw [if_pos q]
          · rw [if_neg q, if_neg qc']
set_option maxRecDepth 100000 in
theorem by64_tab2 : ∀ n, n < 256 → by64 (((Int8.ofNat n).toInt32).toInt64) = (Int8.ofNat n).toInt32 := by decide +kernel
theorem by64_bk {y : Int32} (h : isB y) : by64 (y.toInt64) = y := by
  obtain ⟨n, hn, rfl⟩ := isB_cases h
  exact by64_tab2 n hn
theorem gv_m {N i : Nat} {o : ob_mPictures} {gf : Nat → Int32} {y : Int32} (hN : 2 ≤ N) (hm : fd_mPictures_making o = 0) (hz : fd_mPictures_size o = nI i) (hi : i < 65536) (hy : is8 y) :
    ex_mPictures_give N o gf y.toInt64 1 = some (fs_mPictures_size (fs_mPictures_thrown o 0) (nI (i + 1)), upd gf i y, 1) := by
  obtain ⟨n, rfl⟩ : ∃ n, N = n + 2 := ⟨N - 2, by omega⟩
  obtain ⟨a, b, c, r⟩ := o
  have hb : b = nI i := hz
  have hc : c = 0 := hm
  subst hb; subst hc
  have e1 : nI i + 1 ≤ (65536 : Int32) := by rw [show nI i + 1 = nI (i + 1) from nI_add i 1]; exact nI_le (b := 65536) (by omega) (by omega)
  unfold ex_mPictures_give
  rw [if_pos hm, if_neg (show ¬ (1 : Int32) < 1 by decide), if_neg (show ¬ (8 : Int32) < 1 by decide), if_pos e1]
  rw [show (1 : Int32) - 1 = 0 by decide, lp_mPictures_give_41, if_neg (show ¬ (0 : Int32) < 0 by decide)]
  rw [m_one (a := 0) _ hi, le1]
  rw [Option.bind_some, show (0 : Int32) + (-1) = -1 by decide, lp_mPictures_give_41, if_pos (by decide), Option.bind_some]
  have e2 : bw gf i [((y.toInt64 >>> ((8 * (0 : Int32)).toInt64 &&& 63) &&& 255).toInt32).toInt8.toInt32] = upd gf i y := by
    show upd gf i (by64 y.toInt64) = _
    rw [by64_bk (is8_nar hy)]
  show some (_, bw gf i [((y.toInt64 >>> ((8 * (0 : Int32)).toInt64 &&& 63) &&& 255).toInt32).toInt8.toInt32], (1 : Int32)) = _
  rw [e2]
theorem gv_l {N L : Nat} {gt : Nat → Int32} (hN : 2 ≤ N) (hL : L ≤ 65536) (h8 : by8 65536 gt) :
    ∀ (r i f : Nat) (gf : Nat → Int32) (o : ob_mPictures), i + r = L → r < f → fd_mPictures_making o = 0 → fd_mPictures_size o = nI i → agree i gt gf → by8 65536 gf →
    ∃ g' o', lp_Ref_picture_11 N gt (nI L) f (nI i) gf o = some (g', o') ∧ fd_mPictures_making o' = 0 ∧ fd_mPictures_size o' = nI L ∧ agree L gt g' ∧ by8 65536 g' := by
  intro r
  induction r with
  | zero =>
    intro i f gf o hi hf hm hz ha hb
    obtain ⟨f, rfl⟩ : ∃ k, f = k + 1 := ⟨f - 1, by omega⟩
    obtain rfl : i = L := by omega
    refine ⟨gf, o, ?_, hm, hz, ha, hb⟩
    unfold lp_Ref_picture_11
    rw [if_pos (nI_le (Nat.le_refl _) (by omega))]
  | succ r ih =>
    intro i f gf o hi hf hm hz ha hb
    obtain ⟨f, rfl⟩ : ∃ k, f = k + 1 := ⟨f - 1, by omega⟩
    have hy : is8 (gt i) := h8 i (by omega)
    obtain ⟨g', o', e, k1, k2, k3, k4⟩ := ih (i + 1) f (upd gf i (gt i)) (fs_mPictures_size (fs_mPictures_thrown o 0) (nI (i + 1))) (by omega) (by omega) hm rfl (fun k hk => by
      by_cases q : k = i
      · rw [q]; exact (if_pos rfl).symm
      · exact (ha k (by omega)).trans (if_neg q).symm) (by8_upd hb i hy)
    refine ⟨g', o', ?_, k1, k2, k3, k4⟩
    unfold lp_Ref_picture_11
    rw [if_neg (mt (nI_leI (by omega) (by omega)).mp (by omega)), if_pos (dk_in_nI (by omega) (by omega)), nI_clamp (by omega), gv_m hN hm hz (by omega) hy, Option.bind_some, show nI i + 1 = nI (i + 1) from nI_add i 1]
    exact e
/-- **a file of pictures, on both sides** -/
theorem pic_join {N L no cm P K S : Nat} {g gt tr wr br wb bb bl md : Nat → Int32} {nu : Nat → Int64} {fs sp sl en pf : Nat → Int32} {o : ob_PictureFile} {om : ob_Main} {ty ct pp gby ga gl gA gL ft : Nat → Int32} {rd : ob_LineReader} {oc : ob_Coder} {or : ob_Ref} {op : ob_mPictures} {ol : ob_mLines} {oJ : ob_mPictures} {ra rl gl2 ga2 out f pgs pc lc : Nat → Int32} (hN : 2 ^ 22 < N) (hL : L ≤ 65536) (hg : agree 65536 g gt) (h8 : by8 65536 g) (h8p : by8 65536 pf) (hm : fd_mPictures_making op = 0) (hz : ∃ k : Nat, fd_mPictures_size op = nI k ∧ k ≤ 65536) (hf0 : fs 0 = 0) (htr : agree 1024 tr trT) (hT : mTab wr br wb bb bl md) (hR : rdT wr br wb bb bl md) (hno : 60000 ≤ no) (hno2 : no < 100000) (m1 : fd_Main_pictures om = nI cm) (m2 : fd_Ref_comeTo or = nI cm) (hcm : cm ≤ 300) (hout : ∀ k, k < no → isB (out k)) (hfl : flR P K S (nI S, nI P, nI K) ft gby oJ f pgs) :
    ∃ (code cm' P' K' S' : Nat), ∃ o' ty' ct' pp' oc' rd' ga' gl' gby' ft' gA' gL' op' pf' nu' fs' sp' sl' en' ol' gl2' ga2' out' rl' ra' oJ' pgs' f' pc' lc', code < 100 ∧ cm' ≤ 300 ∧
      ex_Main_printPictures N om o g 11 ty 11 ct 11 pp oc rd (nI S, nI P, nI K) ga gl gby ft tr gA gL (nI L) = some (fs_Main_pictures om (nI cm'), o', ty', ct', pp', oc', rd', (nI S', nI P', nI K'), ga', gl', gby', ft', gA', gL', nI code) ∧
      ex_Ref_picture N or op gt pf nu fs sp sl en ol oJ pgs wr br wb bb bl md gl2 ga2 no out rl ra f pc lc (nI L) = some (fs_Ref_fault (fs_Ref_comeTo or (nI cm')) (nI code), op', pf', nu', fs', sp', sl', en', ol', oJ', pgs', gl2', ga2', out', rl', ra', f', pc', lc') ∧ flR P' K' S' (nI S', nI P', nI K') ft' gby' oJ' f' pgs' ∧ (fd_mPictures_making op' = 0 ∧ (∃ k : Nat, fd_mPictures_size op' = nI k ∧ k ≤ 65536) ∧ fs' 0 = 0 ∧ by8 65536 pf') ∧ (∀ k, k < no → isB (out' k)) := by
  obtain ⟨kz, hz, hkz⟩ := hz
  have h8t : by8 65536 gt := fun i hi => hg i hi ▸ h8 i hi
  obtain ⟨g', oV, eg, v1, v2, v3, v4⟩ := gv_l (N := N) (by omega) hL h8t L 0 N pf (fs_mPictures_size (fs_mPictures_thrown op 0) 0) (by omega) (by omega) hm rfl (fun i hi => absurd hi (by omega)) h8p
  have ecut : ex_mPictures_cut N op 0 = some (fs_mPictures_size (fs_mPictures_thrown op 0) 0, 1) := by
    unfold ex_mPictures_cut
    rw [if_pos hm, if_neg (show ¬ (0 : Int32) < 0 by decide), hz, if_pos (show (0 : Int32) ≤ nI kz from nI_le (a := 0) (by omega) (by omega))]
  have hgg : agree L g g' := fun i hi => (hg i (by omega)).trans (v3 i hi)
  obtain ⟨oU, nu', fs', sp', sl', en', er, r1, r2, r3, r4⟩ := rd_m (N := N) (L := L) (g := g') (en := en) (fs := fs) (sp := sp) (sl := sl) (nu := nu) (o := oV) (by omega) hL v1 v2 hf0 (v4 0 (by omega)) (v4 1 (by omega))
  obtain ⟨o1, ty1, ct1, pp1, ec, ec2⟩ := ch_c (N := N) (nb := 65536) (L := L) (o := o) (g := g) (g' := g') (ty := ty) (ct := ct) (pp := pp) (by omega) hL hgg (Nat.le_refl _) (by omega)
  have hrc : 0 ≤ (rcA g' L).1 ∧ (rcA g' L).1 ≤ 9 ∧ (rcA g' L).2 ≤ 40 := by
    unfold rcA
    split
    · have := goA_r (h := hoA g') (g := g') (L := L) (P0 := p0A g') 40 0
      omega
    · exact ⟨(by decide : (0 : Int) ≤ 1), (by decide : (1 : Int) ≤ 9), Nat.zero_le _⟩
  by_cases q : (rcA g' L).1 = 0
  · have q2 := ec2 q
    have q3 := r4 q
    rw [if_pos q] at er
    rw [q] at ec
    have hbg : bgA g' L := by
      by_cases qb : bgA g' L
      · exact qb
      · unfold rcA at q; rw [if_neg qb] at q; exact absurd q (show ¬ (1 : Int) = 0 by decide)
    have hrg : rcA g' L = goA (hoA g') g' L (p0A g') 40 0 := if_pos hbg
    have h0 : p0A g' < 4294967296 := by have := qFour_r (hoA g') g' 4; unfold p0A; omega
    have hn1 : 0 < (rcA g' L).2 := by
      rw [hrg] at q ⊢
      have hh := goA_r (h := hoA g') (g := g') (L := L) (P0 := p0A g') 39 1
      unfold goA at q ⊢
      split
      · rename_i c; rw [if_pos c] at q; exact absurd q c
      rename_i c; rw [if_neg c] at q
      split
      · rename_i c2; rw [if_pos c2] at q; exact absurd q c2
      rename_i c2; rw [if_neg c2] at q
      split
      · exact Nat.zero_lt_one
      · exact Nat.lt_of_lt_of_le Nat.zero_lt_one hh.2.2.1
    obtain ⟨n, hn⟩ : ∃ n, n = (rcA g' L).2 := ⟨_, rfl⟩
    rw [← hn] at er q3 hn1 hrc
    obtain ⟨code, cm', P', K', S', o', ty', ct', pp', oc', rd', ga', gl', gby', ft', gA', gL', op', ol', gl2', ga2', out', rl', ra', oJ', pgs', f', pc', lc', j1, j2, j3, j4, j5, ⟨th, j6⟩, j7⟩ := lp_pages (N := N) (L := L) (n := n) (no := no) (P0 := p0A g') (g := g) (g' := g') (tr := tr) (wr := wr) (br := br) (wb := wb) (bb := bb) (bl := bl) (md := md) (nu := nu') (fs := fs') (sp := sp') (sl := sl') (en := en') (oU := oU) (oV := oV) (h := hoA g') hN hL hgg h0 (hrg ▸ q) (by rw [hn, hrg]) q3.2 htr hT hR hno hno2 n 0 N N cm P K S o1 om ty1 ct1 pp1 gby ga gl gA gL ft rd oc (fs_Ref_fault or 0) oU ol oJ ra rl gl2 ga2 out f pgs pc lc (by omega) (by omega) (by omega) q2.1 q2.2.1 (by rw [if_pos hn1]; exact q2.2.2) m1 m2 hcm rfl q3.1 hout hfl
    refine ⟨code, cm', P', K', S', o', ty', ct', pp', oc', rd', ga', gl', gby', ft', gA', gL', op', g', nu', fs', sp', sl', en', ol', gl2', ga2', out', rl', ra', oJ', pgs', f', pc', lc', j1, j2, ?_, ?_, j5, ⟨by rw [j6]; exact r2, ⟨L, by rw [j6]; exact r3, hL⟩, r1, v4⟩, j7⟩
    · unfold ex_Main_printPictures
      refine (bind_eq ec).trans ?_
      exact j3
    · unfold ex_Ref_picture
      refine (bind_eq ecut).trans ?_
      refine (bind_eq eg).trans ?_
      refine (bind_eq er).trans ?_
      refine (if_pos (show (0 : Int32) ≤ nI n from nI_le (a := 0) (by omega) (by omega))).trans ?_
      refine (bind_eq j4).trans ?_
      rfl
  · obtain ⟨F, hF⟩ : ∃ F : Nat, (rcA g' L).1 = (F : Int) := ⟨(rcA g' L).1.toNat, by omega⟩
    rw [if_neg q, hF] at er
    rw [hF] at ec
    rw [hF] at hrc q
    have hF0 : ¬ nI F = 0 := mt (nI_eq (b := 0) (by omega) (by omega)).mp (by omega)
    obtain ⟨f1, hf1⟩ : ∃ k, N = k + 1 := ⟨N - 1, by omega⟩
    refine ⟨F, cm, P, K, S, o1, ty1, ct1, pp1, oc, rd, ga, gl, gby, ft, gA, gL, oU, g', nu', fs', sp', sl', en', ol, gl2, ga2, out, rl, ra, oJ, pgs, f, pc, lc, by omega, hcm, ?_, ?_, hfl, ⟨r2, ⟨L, r3, hL⟩, r1, v4⟩, hout⟩
    · unfold ex_Main_printPictures
      refine (bind_eq ec).trans ?_
      rw [← m1]
      have el : lp_Main_printPictures_11 N g 11 11 11 tr N 0 (nI F) om oc rd (nI S, nI P, nI K) ga gl gby ft gA gL o1 ty1 ct1 pp1 = some (Sum.inl (nI F, om, oc, rd, (nI S, nI P, nI K), ga, gl, gby, ft, gA, gL, o1, ty1, ct1, pp1)) := by
        have : ∀ k, lp_Main_printPictures_11 N g 11 11 11 tr (k + 1) 0 (nI F) om oc rd (nI S, nI P, nI K) ga gl gby ft gA gL o1 ty1 ct1 pp1 = some (Sum.inl (nI F, om, oc, rd, (nI S, nI P, nI K), ga, gl, gby, ft, gA, gL, o1, ty1, ct1, pp1)) := by
          intro k
          unfold lp_Main_printPictures_11
          rw [if_neg (show ¬ (40 : Int32) ≤ 0 by decide), if_neg hF0]
        exact (show N - 1 + 1 = N by omega) ▸ this (N - 1)
      show dk_elim (lp_Main_printPictures_11 N g 11 11 11 tr N 0 (nI F) om oc rd (nI S, nI P, nI K) ga gl gby ft gA gL o1 ty1 ct1 pp1) pFin (fun r => some r) = _
      rw [el]
      rfl
    · unfold ex_Ref_picture
      refine (bind_eq ecut).trans ?_
      refine (bind_eq eg).trans ?_
      refine (bind_eq er).trans ?_
      have hneg : ¬ (0 : Int32) ≤ iI (-(F : Int)) := mt (iI_le (a := 0) (by omega) (by omega)).mp (by omega)
      refine (if_neg hneg).trans ?_
      have e2 : - iI (-(F : Int)) = nI F := by rw [iI_neg, Int.neg_neg]; rfl
      have el : ∀ k, lp_Ref_picture_64c2 N wr br wb bb bl md no (oU, nu', fs', sp', sl', en', iI (-(F : Int))) (g', oV) (k + 1) 0 (fs_Ref_fault or (- iI (-(F : Int)))) ol oJ pgs gl2 ga2 out rl ra f pc lc oU = some (fs_Ref_fault (fs_Ref_comeTo or (nI cm)) (nI F), ol, oJ, pgs, gl2, ga2, out, rl, ra, f, pc, lc, oU) := by
        intro k
        unfold lp_Ref_picture_64c2
        rw [if_pos (show iI (-(F : Int)) ≤ (0 : Int32) from (iI_le (b := 0) (by omega) (by omega)).mpr (by omega)), e2, ← m2]
      have el' := el (N - 1)
      rw [show N - 1 + 1 = N by omega] at el'
      refine (bind_eq el').trans ?_
      rfl
/-- the class behind a file of pictures -/
def kPc (s : CS) (om : ob_Main) (o : ob_PictureFile) (ty ct pp : Nat → Int32) (oc : ob_Coder) (rd : ob_LineReader) (of : ob_OutFile) (ga gl gby ft gA gL : Nat → Int32) : CS := (((om, s.g_tape), s.2.1, (o, s.n_picture_types, ty, s.n_picture_counts, ct, s.n_picture_places, pp), (rd, s.g_reader_tree, gA, gL), (oc, gl, ga), s.2.2.2.2.2.1, s.2.2.2.2.2.2.1, (of, gby, ft), s.2.2.2.2.2.2.2.2) : CS)
/-- the reference behind a file of pictures -/
def mPc (m : RS) (or : ob_Ref) (pgs : Nat → Int32) (oJ : ob_mPictures) (f pc lc : Nat → Int32) (ol : ob_mLines) (out gl2 ga2 ra rl : Nat → Int32) (op : ob_mPictures) (nu : Nat → Int64) (fs sp sl pf en : Nat → Int32) : RS := (((or, pgs, m.g_fresh, m.g_shownPages, m.g_tape, m.g_seed, m.g_xWhat, m.g_xId, m.g_toDo, m.g_toDoId, m.g_bytes2, m.g_bytes1), (oJ, f, pc, lc), (ol, m.n_lines_out, out, gl2, ga2, m.g_lines_whiteRests, m.g_lines_blackRests, m.g_lines_whiteBlocks, m.g_lines_blackBlocks, m.g_lines_blocks, m.g_lines_modes, ra, rl), m.2.2.2.1, m.2.2.2.2.1, m.2.2.2.2.2.1, m.2.2.2.2.2.2.1, m.2.2.2.2.2.2.2.1, (op, nu, fs, sp, sl, pf, en), m.2.2.2.2.2.2.2.2.2) : RS)
theorem kTpd_y {tp n : Nat} {x : Int32} (hn : 1 ≤ n ∧ n ≤ 20) (htp : tp ≤ 65536) (ht : x = nI tp) : (if (0 : Int32) < x - (20 - nI n) then x - (20 - nI n) else 0) = nI (tp - (20 - n)) := by
  have e1 : (20 : Int32) - nI n = nI (20 - n) := nI_sub (a := 20) hn.2
  rw [e1, ht]
  by_cases q : 20 - n ≤ tp
  · rw [nI_sub q]
    by_cases q2 : 0 < tp - (20 - n)
    · rw [if_pos (show (0 : Int32) < nI (tp - (20 - n)) from nI_lt (a := 0) q2 (by omega))]
    · rw [if_neg (show ¬ (0 : Int32) < nI (tp - (20 - n)) from nI_nlt (a := 0) (by omega) (by omega)), show tp - (20 - n) = 0 by omega]; rfl
  · rw [if_neg, show tp - (20 - n) = 0 by omega]
    · rfl
    · rw [Int32.lt_iff_toInt_lt, nI_sub_toInt (by omega) (by omega)]
      have : (0 : Int32).toInt = 0 := rfl
      omega
theorem ksub_p {N n tp : Nat} {s : CS} {om : ob_Main} {o' : ob_PictureFile} {ty' ct' pp' ga' gl' gby' ft' gA' gL' : Nat → Int32} {oc' : ob_Coder} {rd' : ob_LineReader} {of' : ob_OutFile} {code : Int32} (hn : 1 ≤ n ∧ n ≤ 20) (htp : tp ≤ 65536) (hf : fd_Main_fault s.o_this = 0) (ht : fd_Main_taped s.o_this = nI tp) (n1 : s.n_picture_types = 11) (n2 : s.n_picture_counts = 11) (n3 : s.n_picture_places = 11)
    (hs : ex_Main_printPictures N s.o_this s.o_picture s.g_tape 11 s.g_picture_types 11 s.g_picture_counts 11 s.g_picture_places s.o_coder s.o_reader s.o_file s.g_coder_above s.g_coder_line s.g_file_bytes s.g_file_table s.g_reader_tree s.g_reader_above s.g_reader_line (nI (tp - (20 - n))) = some (om, o', ty', ct', pp', oc', rd', of', ga', gl', gby', ft', gA', gL', code)) :
    kSubmit N s 1 (nI n) = some (kPc s (fs_Main_fault (fs_Main_taped om 0) code) o' ty' ct' pp' oc' rd' of' ga' gl' gby' ft' gA' gL', fd_OutFile_pages of') := by
  have e2 := kTpd_y hn htp ht
  unfold kSubmit
  refine Option.map_eq_some_iff.mpr ⟨?w9, ?p9, ?q9⟩
  case p9 =>
    unfold ex_Main_submit
    rw [if_neg (show ¬ (1 : Int32) < 0 by decide), if_neg (show ¬ (1 : Int32) < 1 by decide), if_neg (show ¬ nI n < 1 from nI_nlt (b := 1) (by omega) (by omega)), if_pos (show nI n ≤ 20 from nI_le (b := 20) (by omega) (by omega)), if_pos hf]
    rw [e2, n1, n2, n3]
    unfold dk_let
    refine (if_neg (show ¬ (1 : Int32) = 0 by decide)).trans ?_
    refine (bind_eq hs).trans ?_
    rfl
  case q9 => rfl
theorem msub_p {N n tp L : Nat} {m : RS} {or : ob_Ref} {op' : ob_mPictures} {pf' fs' sp' sl' en' : Nat → Int32} {nu' : Nat → Int64} {ol' : ob_mLines} {oJ' : ob_mPictures} {pgs' gl2' ga2' out' rl' ra' f' pc' lc' : Nat → Int32} (hn : 1 ≤ n ∧ n ≤ 20) (htp : tp ≤ 65536) (h20 : tp = 0 ∨ 20 ≤ tp) (hf : fd_Ref_fault m.o_this = 0) (ht : fd_Ref_onTape m.o_this = nI tp) (hL : L = tp - (20 - n))
    (hs : ex_Ref_picture N (fs_Ref_onTape (fs_Ref_thrown m.o_this 0) 0) m.o_part m.g_tape m.g_part_file m.g_part_numbers m.g_part_firstStrip m.g_part_stripPlace m.g_part_stripLength m.g_part_entry m.o_lines m.o_job m.g_pages m.g_lines_whiteRests m.g_lines_blackRests m.g_lines_whiteBlocks m.g_lines_blackBlocks m.g_lines_blocks m.g_lines_modes m.g_lines_line m.g_lines_above m.n_lines_out m.g_lines_out m.g_lines_readLine m.g_lines_readAbove m.g_job_file m.g_job_places m.g_job_lengths (nI L) = some (or, op', pf', nu', fs', sp', sl', en', ol', oJ', pgs', gl2', ga2', out', rl', ra', f', pc', lc')) :
    mSubmit N m 1 (nI n) = some (mPc m or pgs' oJ' f' pc' lc' ol' out' gl2' ga2' ra' rl' op' nu' fs' sp' sl' pf' en', fd_mPictures_made oJ') := by
  have c1 : ¬ nI n < 1 := nI_nlt (b := 1) (by omega) (by omega)
  have c2 : nI n ≤ 20 := nI_le (b := 20) (by omega) (by omega)
  have c3 : fd_Ref_fault m.o_this ≤ 0 := by rw [hf]; decide
  rcases h20 with q | q
  · have hL0 : L = 0 := by omega
    have c4 : fd_Ref_onTape m.o_this = 0 := by rw [ht, q]; rfl
    rw [hL0, show nI 0 = (0 : Int32) from rfl] at hs
    unfold mSubmit
    refine Option.map_eq_some_iff.mpr ⟨?w9, ?p9, ?q9⟩
    case p9 =>
      unfold ex_Ref_submit
      rw [if_neg (show ¬ (1 : Int32) = 0 by decide), if_pos (show (1 : Int32) = 1 from rfl), if_neg c1, if_pos c2, if_pos c3, if_pos c4, if_pos (show (1 : Int32) = 1 from rfl)]
      refine (bind_eq hs).trans ?_
      rfl
    case q9 => rfl
  · have c4 : ¬ fd_Ref_onTape m.o_this = 0 := by rw [ht]; exact mt (nI_eq (b := 0) (by omega) (by omega)).mp (by omega)
    have hl : fd_Ref_onTape m.o_this - 20 + nI n = nI L := by
      rw [ht, show nI tp - 20 = nI (tp - 20) from nI_subL 20 q, nI_add]; congr 1; omega
    rw [← hl] at hs
    unfold mSubmit
    refine Option.map_eq_some_iff.mpr ⟨?w8, ?p8, ?q8⟩
    case p8 =>
      unfold ex_Ref_submit
      rw [if_neg (show ¬ (1 : Int32) = 0 by decide), if_pos (show (1 : Int32) = 1 from rfl), if_neg c1, if_pos c2, if_pos c3, if_neg c4, if_pos (show (1 : Int32) = 1 from rfl)]
      refine (bind_eq hs).trans ?_
      rfl
    case q8 => rfl
/-- what files of pictures ask, on both sides -/
def jP (s : CS) (m : RS) : Prop := (∃ cm : Nat, cm ≤ 300 ∧ fd_Main_pictures s.o_this = nI cm ∧ fd_Ref_comeTo m.o_this = nI cm) ∧ s.n_picture_types = 11 ∧ s.n_picture_counts = 11 ∧ s.n_picture_places = 11 ∧ agree 1024 s.g_reader_tree trT ∧ fd_mPictures_making m.o_part = 0 ∧ (∃ k : Nat, fd_mPictures_size m.o_part = nI k ∧ k ≤ 65536) ∧ m.g_part_firstStrip 0 = 0 ∧ by8 65536 m.g_part_file
/-- **submit with a file of pictures, on both sides** -/
theorem sb_p {N d T h tp n : Nat} {s : CS} {m : RS} (hN : 2 ^ 24 < N) (hn : 1 ≤ n ∧ n ≤ 20) (hR : jR N d T h s m) (hT2 : jT tp s m) (hP : jP s m) : ∃ (v cm code : Nat) (s1 : CS) (m1 : RS), code < 100 ∧ kSubmit N s 1 (nI n) = some (s1, nI v) ∧ mSubmit N m 1 (nI n) = some (m1, nI v) ∧ (jR N d T h s1 m1 ∨ jX N d T s1 m1) ∧ jP s1 m1 ∧ s1.o_this = fs_Main_fault (fs_Main_taped (fs_Main_pictures s.o_this (nI cm)) 0) (nI code) ∧ m1.o_this = fs_Ref_fault (fs_Ref_comeTo (fs_Ref_onTape (fs_Ref_thrown m.o_this 0) 0) (nI cm)) (nI code) ∧ (∃ o' ty' ct' pp' oc' rd' of' ga' gl' gby' ft' gA' gL', s1 = kPc s s1.o_this o' ty' ct' pp' oc' rd' of' ga' gl' gby' ft' gA' gL') ∧ (∃ pgs' oJ' f' pc' lc' ol' out' gl2' ga2' ra' rl' op' nu' fs' sp' sl' pf' en', m1 = mPc m m1.o_this pgs' oJ' f' pc' lc' ol' out' gl2' ga2' ra' rl' op' nu' fs' sp' sl' pf' en') := by
  obtain ⟨hI, hl, hac, hh, had⟩ := hR
  obtain ⟨⟨k, r, cp, p, hPg, hSh, hFo, hKn, hRa, hMa, hFl, hFa, hIt⟩, hPs, hSd⟩ := hI
  obtain ⟨t1, ⟨q, t2⟩, t3, t4, t5, t6⟩ := hT2
  obtain ⟨L, hL⟩ : ∃ L, L = tp - (20 - n) := ⟨_, rfl⟩
  obtain ⟨⟨cm, hcm, pm1, pm2⟩, n1, n2, n3, htr, hm, hz, hf0, h8p⟩ := hP
  obtain ⟨⟨P, K, S, hfl⟩, fl1, fl2, fl3, fl4, fl5⟩ := hFl
  have hof := hfl.1
  rw [hof] at hfl
  obtain ⟨code, cm', P', K', S', o', ty', ct', pp', oc', rd', ga', gl', gby', ft', gA', gL', op', pf', nu', fs', sp', sl', en', ol', gl2', ga2', out', rl', ra', oJ', pgs', f', pc', lc', j1, j2, j3, j4, j5, ⟨j6, j7, j8, j9⟩, j10⟩ := pic_join (N := N) (L := L) (no := m.n_lines_out) (cm := cm) (g := s.g_tape) (gt := m.g_tape) (tr := s.g_reader_tree) (nu := m.g_part_numbers) (fs := m.g_part_firstStrip) (sp := m.g_part_stripPlace) (sl := m.g_part_stripLength) (en := m.g_part_entry) (pf := m.g_part_file) (o := s.o_picture) (om := s.o_this) (ty := s.g_picture_types) (ct := s.g_picture_counts) (pp := s.g_picture_places) (ga := s.g_coder_above) (gl := s.g_coder_line) (gA := s.g_reader_above) (gL := s.g_reader_line) (rd := s.o_reader) (oc := s.o_coder) (or := fs_Ref_onTape (fs_Ref_thrown m.o_this 0) 0) (op := m.o_part) (ol := m.o_lines) (ra := m.g_lines_readAbove) (rl := m.g_lines_readLine) (gl2 := m.g_lines_line) (ga2 := m.g_lines_above) (out := m.g_lines_out) (pc := m.g_job_places) (lc := m.g_job_lengths) (by omega) (by omega) t5 t6 h8p hm hz hf0 htr fl4 (rdT_of fl4) fl1 fl2 pm1 pm2 hcm fl3 hfl
  rw [← hof] at j3
  rw [hL] at j3
  have ec := ksub_p hn t1 hFa.1 t3 n1 n2 n3 j3
  have em := msub_p hn t1 (by omega) hFa.2 t4 hL j4
  have ev : fd_mPictures_made oJ' = nI P' := by
    obtain ⟨_, _, _, _, _, _, _, _, _, _, _, e2⟩ := j5.2.2.2.2.1
    rw [e2]
  rw [ev] at em
  obtain ⟨s1, hs1⟩ : ∃ s1, s1 = kPc s (fs_Main_fault (fs_Main_taped (fs_Main_pictures s.o_this (nI cm')) 0) (nI code)) o' ty' ct' pp' oc' rd' (nI S', nI P', nI K') ga' gl' gby' ft' gA' gL' := ⟨_, rfl⟩
  obtain ⟨m1, hm1⟩ : ∃ m1, m1 = mPc m (fs_Ref_fault (fs_Ref_comeTo (fs_Ref_onTape (fs_Ref_thrown m.o_this 0) 0) (nI cm')) (nI code)) pgs' oJ' f' pc' lc' ol' out' gl2' ga2' ra' rl' op' nu' fs' sp' sl' pf' en' := ⟨_, rfl⟩
  have hFl' : cFl s1 m1 := by rw [hs1, hm1]; exact ⟨⟨P', K', S', j5⟩, fl1, fl2, j10, fl4, fl5⟩
  have hP' : jP s1 m1 := by rw [hs1, hm1]; exact ⟨⟨cm', j2, rfl, rfl⟩, n1, n2, n3, htr, j6, j7, j8, j9⟩
  rw [← hs1] at ec
  rw [← hm1] at em
  refine ⟨P', cm', code, s1, m1, j1, ec, em, ?_, hP', by rw [hs1]; rfl, by rw [hm1]; rfl, ⟨o', ty', ct', pp', oc', rd', (nI S', nI P', nI K'), ga', gl', gby', ft', gA', gL', by rw [hs1]; rfl⟩, ⟨pgs', oJ', f', pc', lc', ol', out', gl2', ga2', ra', rl', op', nu', fs', sp', sl', pf', en', by rw [hm1]; rfl⟩⟩
  by_cases qc : code = 0
  · refine Or.inl ⟨⟨⟨k, r, cp, p, by rw [hs1, hm1]; exact hPg, by rw [hs1, hm1]; exact hSh, by rw [hs1, hm1]; exact hFo, by rw [hs1]; exact hKn, by rw [hs1, hm1]; exact hRa, by rw [hs1, hm1]; exact hMa, hFl', by rw [hs1, hm1, qc]; exact ⟨rfl, rfl⟩, by rw [hs1]; exact hIt⟩, by rw [hs1, hm1]; exact hPs, by rw [hs1, hm1]; exact hSd⟩, by rw [hs1]; exact hl, by rw [hs1]; exact hac, hh, by rw [hm1]; exact had⟩
  · exact Or.inr ⟨⟨code, by omega, by omega, by rw [hs1]; rfl, by rw [hm1]; rfl⟩, ⟨k, r, cp, p, by rw [hs1, hm1]; exact hPg⟩, ⟨k, r, by rw [hs1, hm1]; exact ⟨hSh.2.2.1, hSh.2.2.2.2.1, hSh.2.2.2.2.2⟩⟩, by rw [hs1, hm1]; exact hFo, by rw [hs1]; exact hKn, by rw [hs1, hm1]; exact hRa, by rw [hs1, hm1]; exact hMa, hFl', by rw [hs1]; exact hIt, by rw [hm1]; exact hSh.1⟩
/-- what submit takes -/
abbrev sbK (v0 v1 : Int32) : Prop := (v0 = 0 ∨ v0 = 1) ∧ ¬ v1 < 1 ∧ v1 ≤ 20
theorem ms_1 {N : Nat} {m : RS} {v0 v1 : Int32} (h : ¬ sbK v0 v1) : mSubmit N m v0 v1 = some (mO m (fs_Ref_thrown m.o_this 1), 0) := by
  unfold mSubmit
  refine Option.map_eq_some_iff.mpr ⟨?w9, ?p9, ?q9⟩
  case p9 =>
    unfold ex_Ref_submit
    by_cases c0 : v0 = 0
    · refine (if_pos c0).trans ?_
      by_cases c1 : v1 < 1
      · exact if_pos c1
      · refine (if_neg c1).trans ?_
        exact if_neg (fun c2 => h ⟨Or.inl c0, c1, c2⟩)
    · refine (if_neg c0).trans ?_
      by_cases c3 : v0 = 1
      · refine (if_pos c3).trans ?_
        by_cases c1 : v1 < 1
        · exact if_pos c1
        · refine (if_neg c1).trans ?_
          exact if_neg (fun c2 => h ⟨Or.inr c3, c1, c2⟩)
      · exact if_neg c3
  case q9 => rfl
theorem ms_2 {N : Nat} {m : RS} {v0 v1 : Int32} (h : sbK v0 v1) (hf : ¬ fd_Ref_fault m.o_this ≤ 0) : mSubmit N m v0 v1 = some (mO m (fs_Ref_thrown m.o_this 2), 0) := by
  obtain ⟨h0, h1, h2⟩ := h
  unfold mSubmit
  refine Option.map_eq_some_iff.mpr ⟨?w9, ?p9, ?q9⟩
  case p9 =>
    unfold ex_Ref_submit
    by_cases c0 : v0 = 0
    · refine (if_pos c0).trans ?_
      refine (if_neg h1).trans ?_
      refine (if_pos h2).trans ?_
      exact if_neg hf
    · have c3 : v0 = 1 := h0.resolve_left c0
      refine (if_neg c0).trans ?_
      refine (if_pos c3).trans ?_
      refine (if_neg h1).trans ?_
      refine (if_pos h2).trans ?_
      exact if_neg hf
  case q9 => rfl
theorem jZ_f {J : Nat} {s s1 : CS} {m m1 : RS} (hk : kfG s s1) (hr : rfG m m1) (h : jZ J s m) : jZ J s1 m1 := by
  obtain ⟨⟨k1, k2, k3, k4⟩, k5, k6, k7, k8, k9, k10, k11⟩ := hk
  obtain ⟨⟨r1, r2, r3, r4, r5, r6, r7⟩, r8, r9, r10, r11, r12, r13, r14, r15, r16, r17, r18, r19, r20, r21, r22⟩ := hr
  unfold jZ
  rw [k3, r4, k8, k9, k10, r9, r20, r21]
  exact h
theorem jW_f {s s1 : CS} {m m1 : RS} (hk : kfG s s1) (hr : rfG m m1) (h : jW s m) : jW s1 m1 := by
  obtain ⟨⟨k1, k2, k3, k4⟩, k5, k6, k7, k8, k9, k10, k11, k12, k13, k14, k15, k16, k17, k18, k19, k20, k21⟩ := hk
  obtain ⟨⟨r1, r2, r3, r4, r5, r6, r7⟩, r8, r9, r10, r11, r12, r13, r14, r15, r16, r17, r18, r19, r20, r21, r22, r23, r24, r25, r26, r27, r28, r29, r30, r31, r32, r33, r34, r35, r36, r37⟩ := hr
  unfold jW
  rw [k19, r6, r7, r9, r20, r21, r29, r30, r31, r32, r33, r34, r35, r36]
  exact h
theorem jP_f {s s1 : CS} {m m1 : RS} (hk : kfG s s1) (hr : rfG m m1) (h : jP s m) : jP s1 m1 := by
  obtain ⟨⟨k1, k2, k3, k4⟩, k5, k6, k7, k8, k9, k10, k11, k12, k13, k14, k15, k16, k17, k18, k19, k20, k21⟩ := hk
  obtain ⟨⟨r1, r2, r3, r4, r5, r6, r7⟩, r8, r9, r10, r11, r12, r13, r14, r15, r16, r17, r18, r19, r20, r21, r22, r23, r24, r25, r26, r27, r28⟩ := hr
  unfold jP
  rw [k4, r5, k12, k14, k16, k19, r22, r24, r27]
  exact h
/-- **what holds between two calls, k calls done** -/
def jV (N d k : Nat) (s : CS) (m : RS) : Prop := ∃ T tp, T + 4 * tp + (if tp = 0 then 0 else 131072) ≤ 131152 * k ∧ ((∃ h, jR N d T h s m) ∨ jX N d T s m) ∧ jT tp s m ∧ jZ k s m ∧ jW s m ∧ jP s m
theorem jZ_le {J J' : Nat} {s : CS} {m : RS} (hJ : J ≤ J') (h : jZ J s m) : jZ J' s m := by
  obtain ⟨j, P, S, h1, h2⟩ := h
  exact ⟨j, P, S, Nat.le_trans h1 hJ, h2⟩
theorem jV_th {N d k : Nat} {s : CS} {m : RS} {x : Int32} (h : jV N d k s m) : jV N d (k + 1) s (mO m (fs_Ref_thrown m.o_this x)) := by
  obtain ⟨T, tp, hT, hV, h1, h2, h3, h4⟩ := h
  exact ⟨T, tp, by omega, hV, h1, jZ_le (Nat.le_succ k) h2, h3, h4⟩
theorem cv_tape {N d k : Nat} {s : CS} {m : RS} {a b c e f : Int32} (hN : 5 ≤ N) (hV : jV N d k s m) : ∃ s1 m1 v, kTape N s a b c e f = some (s1, v) ∧ mTape N m a b c e f = some (m1, v) ∧ fd_Ref_viewPage m1.o_this = fd_Ref_viewPage m.o_this ∧ jV N d (k + 1) s1 m1 := by
  obtain ⟨T, tp, hT, hV, h1, h2, h3, h4⟩ := hV
  obtain ⟨t', o, om, g, g', v, e1, e2, e3, e4, e5, e6⟩ := ca_tape (a := a) (b := b) (c := c) (d := e) (e := f) hN h1
  subst e5; subst e6
  refine ⟨_, _, v, e1, e2, rfl, T, t', ?_, ?_, e4, jZ_le (Nat.le_succ k) h2, h3, h4⟩
  · rcases e3 with q | q
    · rw [q]; omega
    · by_cases qq : tp = 0
      · rw [if_neg (by omega)]; rw [if_pos qq] at hT; omega
      · rw [if_neg (by omega)]; rw [if_neg qq] at hT; omega
  · rcases hV with ⟨h, hR⟩ | hX
    · exact Or.inl ⟨h, hR⟩
    · exact Or.inr hX
theorem cv_bytes {N d k : Nat} {s : CS} {m : RS} {v : Int32} (hN : 9 ≤ N) (hk : k < 2 ^ 30) (hV : jV N d k s m) : ∃ m1 x, kBytesAt N s v = some x ∧ mBytesAt N m v = some (m1, x) ∧ fd_Ref_viewPage m1.o_this = fd_Ref_viewPage m.o_this ∧ jV N d (k + 1) s m1 := by
  obtain ⟨T, tp, hT, hV, h1, h2, h3, h4⟩ := hV
  obtain ⟨x, os, ho, e1, e2⟩ := ca_bytes (v := v) hN hk h2
  refine ⟨_, x, e1, e2, rfl, T, tp, by omega, ?_, h1, ?_, ?_, h4⟩
  · rcases hV with ⟨h, hR⟩ | hX
    · exact Or.inl ⟨h, hR⟩
    · exact Or.inr hX
  · rcases ho with rfl | rfl
    · exact jZ_le (Nat.le_succ k) h2
    · exact jZ_le (Nat.le_succ k) h2
  · rcases ho with rfl | rfl
    · exact h3
    · exact h3
theorem cv_sheet {N d k : Nat} {s : CS} {m : RS} {v w : Int32} (hk : k < 2 ^ 30) (hV : jV N d k s m) : ∃ P, P ≤ 40 ∧ fd_OutFile_pages s.o_shown = nI P ∧ (shT P v w → mSheetOf N m v w = some (mO m (fs_Ref_thrown m.o_this 1), 0) ∧ jV N d (k + 1) s (mO m (fs_Ref_thrown m.o_this 1))) ∧ (¬ shT P v w → ∃ x, kSheetOf N s v w = some x ∧ mSheetOf N m v w = some (mO m (fs_Ref_thrown m.o_this 0), x) ∧ jV N d (k + 1) s (mO m (fs_Ref_thrown m.o_this 0))) := by
  obtain ⟨T, tp, hT, hV', h1, h2, h3, h4⟩ := id hV
  obtain ⟨P, hP, e1, e2, e3⟩ := ca_sheet (N := N) (v := v) (w := w) hk h2
  refine ⟨P, hP, e1, fun q => ⟨e2 q, jV_th hV⟩, fun q => ?_⟩
  obtain ⟨x, f1, f2⟩ := e3 q
  exact ⟨x, f1, f2, jV_th hV⟩
theorem cv_status {N d k : Nat} {s : CS} {m : RS} {v : Int32} (hN : 1000 < N) (hk : k < 2 ^ 30) (hV : jV N d k s m) : ∃ m1 x, kStatus N s v = some x ∧ mStatus N m v = some (m1, x) ∧ fd_Ref_viewPage m1.o_this = fd_Ref_viewPage m.o_this ∧ jV N d (k + 1) s m1 := by
  obtain ⟨T, tp, hT, hV, h1, h2, h3, h4⟩ := hV
  have hB : jB N d T s m := by
    rcases hV with ⟨h, hR⟩ | hX
    · exact jB_R hR
    · exact jB_X hX
  obtain ⟨x, sh, lf, ho, e1, e2⟩ := ca_status (v := v) hN hk hB h1 h2
  refine ⟨_, x, e1, e2, rfl, T, tp, by omega, ?_, h1, jZ_le (Nat.le_succ k) h2, h3, h4⟩
  rcases hV with ⟨h, hR⟩ | hX
  · rcases ho with rfl | rfl
    · exact Or.inl ⟨h, hR⟩
    · exact Or.inl ⟨h, hR⟩
  · rcases ho with rfl | rfl
    · exact Or.inr hX
    · exact Or.inr hX
theorem cv_printed {N d k : Nat} {s : CS} {m : RS} {v0 v1 v2 : Int32} (hN : 30000 < N) (hk : k < 2 ^ 30) (hV : jV N d k s m) : ∃ s1 m1 x, kPrinted N s v0 v1 v2 = some (s1, x) ∧ mPrinted N m v0 v1 v2 = some (m1, x) ∧ jV N d (k + 1) s1 m1 := by
  obtain ⟨T, tp, hT, hV, h1, h2, h3, h4⟩ := hV
  obtain ⟨o, ga, gl, om, ov, ra, rl, x, e1, e2, e3, e4⟩ := ca_printed (v0 := v0) (v1 := v1) (v2 := v2) hN hk h2 h3
  have hV' : ((∃ h, jR N d T h (kRd s o ga gl) (mVw m om ov ra rl)) ∨ jX N d T (kRd s o ga gl) (mVw m om ov ra rl)) ∧ jT tp (kRd s o ga gl) (mVw m om ov ra rl) ∧ jZ (k + 1) (kRd s o ga gl) (mVw m om ov ra rl) ∧ jP (kRd s o ga gl) (mVw m om ov ra rl) := by
    have h2' := jZ_le (Nat.le_succ k) h2
    rcases e4 with rfl | ⟨a, b, rfl⟩
    · refine ⟨?_, h1, h2', h4⟩
      rcases hV with ⟨h, hR⟩ | hX
      · exact Or.inl ⟨h, hR⟩
      · exact Or.inr hX
    · refine ⟨?_, h1, h2', h4⟩
      rcases hV with ⟨h, hR⟩ | hX
      · exact Or.inl ⟨h, hR⟩
      · exact Or.inr hX
  exact ⟨_, _, x, e1, e2, T, tp, by omega, hV'.1, hV'.2.1, hV'.2.2.1, e3, hV'.2.2.2⟩
theorem nI_ex (v : Int32) (h1 : ¬ v < 1) (h2 : v ≤ 20) : ∃ n : Nat, 1 ≤ n ∧ n ≤ 20 ∧ v = nI n := by
  have a1 : (1 : Int32).toInt ≤ v.toInt := by
    rw [Int32.lt_iff_toInt_lt] at h1; omega
  have a2 : v.toInt ≤ (20 : Int32).toInt := Int32.le_iff_toInt_le.mp h2
  have b1 : (1 : Int32).toInt = 1 := rfl
  have b2 : (20 : Int32).toInt = 20 := rfl
  refine ⟨v.toInt.toNat, by omega, by omega, ?_⟩
  rw [nI_iI, Int.toNat_of_nonneg (by omega)]
  exact iI_of v
theorem fa_V {N d T : Nat} {s : CS} {m : RS} (hV : (∃ h, jR N d T h s m) ∨ jX N d T s m) : (∃ h, jR N d T h s m ∧ fd_Main_fault s.o_this = 0 ∧ fd_Ref_fault m.o_this = 0) ∨ (jX N d T s m ∧ ¬ fd_Main_fault s.o_this = 0 ∧ ¬ fd_Ref_fault m.o_this ≤ 0) := by
  rcases hV with ⟨h, hR⟩ | hX
  · refine Or.inl ⟨h, hR, ?_⟩
    obtain ⟨⟨⟨k, r, cp, p, hC⟩, _⟩, _⟩ := hR
    exact hC.2.2.2.2.2.2.2.1
  · refine Or.inr ⟨hX, ?_⟩
    obtain ⟨⟨f, f1, f2, f3, f4⟩, _⟩ := hX
    rw [f3, f4]
    exact ⟨mt (nI_eq (b := 0) (by omega) (by omega)).mp (by omega), mt (nI_leI (b := 0) (by omega) (by omega)).mp (by omega)⟩
/-- **submit, on both sides**: thrown (1, 2), or answered -/
theorem cv_submit {N d k : Nat} {s : CS} {m : RS} {v0 v1 : Int32} (hN : 2 ^ 24 < N) (hk : k < 512) (hV : jV N d k s m) :
    (¬ sbK v0 v1 ∧ mSubmit N m v0 v1 = some (mO m (fs_Ref_thrown m.o_this 1), 0) ∧ jV N d (k + 1) s (mO m (fs_Ref_thrown m.o_this 1)))
    ∨ (sbK v0 v1 ∧ ¬ fd_Main_fault s.o_this = 0 ∧ mSubmit N m v0 v1 = some (mO m (fs_Ref_thrown m.o_this 2), 0) ∧ jV N d (k + 1) s (mO m (fs_Ref_thrown m.o_this 2)))
    ∨ (∃ s1 m1 x, sbK v0 v1 ∧ fd_Main_fault s.o_this = 0 ∧ kSubmit N s v0 v1 = some (s1, x) ∧ mSubmit N m v0 v1 = some (m1, x) ∧ fd_Ref_thrown m1.o_this = 0 ∧ fd_Ref_viewPage m1.o_this = fd_Ref_viewPage m.o_this ∧ jV N d (k + 1) s1 m1) := by
  by_cases hb : sbK v0 v1
  · obtain ⟨T, tp, hT, hV', h1, h2, h3, h4⟩ := id hV
    rcases fa_V hV' with ⟨h, hR, f1, f2⟩ | ⟨hX, f1, f2⟩
    · refine Or.inr (Or.inr ?_)
      obtain ⟨n, n1, n2, rfl⟩ := nI_ex v1 hb.2.1 hb.2.2
      have hTp : tp ≤ 65536 := h1.1
      by_cases q0 : v0 = 0
      · subst q0
        have hb0 : (if tp = 0 then 0 else 131072) ≤ 131072 := by split <;> omega
        obtain ⟨s1, m1, v, T', hT', e1, e2, e3, e4, e5⟩ := sb_s (N := N) (d := d) (T := T) (h := h) (tp := tp) (n := n) hN ⟨n1, n2⟩ (by omega) hR h1
        refine ⟨_, m1, v, hb, f1, e1, e2, e4.1.1, e4.1.2.2.2.2.2.1, T', 0, ?_, ?_, ?_, ?_, ?_, ?_⟩
        · by_cases q : tp = 0
          · rw [if_pos rfl]; rw [if_pos q] at hT hT'; omega
          · rw [if_pos rfl]; rw [if_neg q] at hT hT'; omega
        · rcases e5 with ⟨h', _, hR'⟩ | hX'
          · exact Or.inl ⟨h', kO_jR hR'⟩
          · exact Or.inr (kO_jX hX')
        · obtain ⟨t1, t2, t3, t4, t5, t6⟩ := h1
          refine ⟨by omega, ⟨0, rfl⟩, rfl, e4.1.2.2.1, ?_, ?_⟩
          · show agree 65536 s1.g_tape m1.g_tape
            rw [e3.2.1, e4.2.1]; exact t5
          · show by8 65536 s1.g_tape
            rw [e3.2.1]; exact t6
        · have z := jZ_le (Nat.le_succ k) (jZ_f (m := mO m (fs_Ref_onTape (fs_Ref_thrown m.o_this 0) 0)) e3 e4 h2)
          exact z
        · have z := jW_f (m := mO m (fs_Ref_onTape (fs_Ref_thrown m.o_this 0) 0)) e3 e4 h3
          exact z
        · have z := jP_f (m := mO m (fs_Ref_onTape (fs_Ref_thrown m.o_this 0) 0)) e3 e4 h4
          exact z
      · obtain rfl : v0 = 1 := hb.1.resolve_left q0
        obtain ⟨v, cm, code, s1, m1, hc, e1, e2, e3, e4, e5, e6, ⟨o', ty', ct', pp', oc', rd', of', ga', gl', gby', ft', gA', gL', e7⟩, ⟨pgs', oJ', f', pc', lc', ol', out', gl2', ga2', ra', rl', op', nu', fs', sp', sl', pf', en', e8⟩⟩ := sb_p (N := N) (d := d) (T := T) (h := h) (tp := tp) (n := n) hN ⟨n1, n2⟩ hR h1 h4
        refine ⟨s1, m1, nI v, hb, f1, e1, e2, by rw [e6], by rw [e6], T, 0, by rw [if_pos rfl]; omega, ?_, ?_, ?_, ?_, e4⟩
        · rcases e3 with hR' | hX'
          · exact Or.inl ⟨h, hR'⟩
          · exact Or.inr hX'
        · obtain ⟨t1, t2, t3, t4, t5, t6⟩ := h1
          refine ⟨by omega, ⟨0, rfl⟩, by rw [e5]; rfl, by rw [e6]; rfl, ?_, ?_⟩
          · rw [e7, e8]; exact t5
          · rw [e7]; exact t6
        · rw [e5] at e7; rw [e6] at e8; rw [e7, e8]; exact jZ_le (Nat.le_succ k) h2
        · rw [e5] at e7; rw [e6] at e8; rw [e7, e8]; exact h3
    · exact Or.inr (Or.inl ⟨hb, f1, ms_2 hb f2, jV_th hV⟩)
  · exact Or.inl ⟨hb, ms_1 hb, jV_th hV⟩
/-- **conclude, on both sides** -/
def ccO (N d k : Nat) (s : CS) (m : RS) : Prop := ∃ (u : rs_Main_conclude) (w : rs_Ref_conclude), ex_Main_conclude N s.o_this s.o_interpreter s.o_macros s.o_interpreter_parser s.g_interpreter_at s.g_interpreter_ends s.g_interpreter_actCount s.g_interpreter_actNext s.o_sheet s.o_page s.o_fonts s.g_fonts_ids s.g_fonts_attributes s.g_fonts_permanent s.g_fonts_glyphs s.g_fonts_dots s.g_fonts_wishes s.g_fonts_pins s.g_fonts_chosen s.g_fonts_left s.g_macros_ids s.g_macros_places s.g_macros_lengths s.g_macros_permanent s.g_macros_bytes s.o_raster s.o_file s.o_shown s.g_shown_bytes s.o_coder s.g_sheet_marks s.g_sheet_dots s.n_sheet_band s.g_sheet_band s.g_coder_above s.g_coder_line s.g_file_bytes s.g_file_table = some u ∧ ex_Ref_conclude N m.o_this m.o_desk m.o_job m.o_shown m.g_pages m.g_shownPages m.o_shelf m.o_macros m.o_sheet m.g_desk_state m.g_desk_isKept m.g_desk_steps m.g_shelf_ids m.g_shelf_attributes m.g_shelf_permanent m.g_shelf_glyph m.g_shelf_store 7 m.g_shelf_draft 14 m.g_shelf_wishes 2 m.g_shelf_pins m.g_macros_ids m.g_macros_permanent m.g_macros_lengths m.g_macros_store m.n_sheet_dots m.g_sheet_dots m.g_shown_file m.o_lines m.g_desk_page m.g_lines_whiteRests m.g_lines_blackRests m.g_lines_whiteBlocks m.g_lines_blackBlocks m.g_lines_blocks m.g_lines_modes m.g_lines_line m.g_lines_above m.n_lines_out m.g_lines_out m.g_job_file m.g_job_places m.g_job_lengths = some w ∧ u.2.2.2.2.2.2.2.2.2.2.2.2.2.2.2.2.2.2.2.2.2.2.2.2.2.2.2.2.2.2.2.2.2.2 = w.2.2.2.2.2.2.2.2.2.2.2.2.2.2.2.2.2.2.2.2.2.2.2.2.2.2.2.2.2.2.2.2.2.2 ∧ fd_Ref_viewPage w.1 = -1 ∧ ∀ q1 q2, jV N d (k + 1) (kCo s u) (mCo m w q1 q2)
theorem cv_conclude {N d k : Nat} {s : CS} {m : RS} (hN : 2 ^ 22 < N) (hk : k < 512) (hV : jV N d k s m) : ccO N d k s m := by
  obtain ⟨T, tp, hT, hV, h1, h2, h3, h4⟩ := hV
  obtain ⟨T', hT', u, w, e1, e2, e3, e4⟩ := ca_conclude (N := N) (d := d) (T := T) (J := k) (tp := tp) hN (by omega) (by omega) hV h1 h2
  obtain ⟨q1, q2, q3, q4, q5, q6, q7⟩ := e4 (fun _ => 0) (fun _ => 0)
  refine ⟨u, w, e1, e2, e3, q5, fun a b => ?_⟩
  obtain ⟨q1, q2, q3, -⟩ := e4 a b
  refine ⟨T', 0, by rw [if_pos rfl]; omega, Or.inl ⟨0, q1⟩, q2, q3, ⟨h3.1, h3.2.1, Or.inl q5⟩, ?_⟩
  obtain ⟨⟨cm, c1, c2, c3⟩, r⟩ := h4
  exact ⟨⟨cm, c1, q7.trans c2, q6.trans c3⟩, r⟩
