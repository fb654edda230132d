def lsT (l : List Int32) : Nat → Int32 := fun i => l.getD i 0
theorem upd_ls {l : List Int32} {k : Nat} {v : Int32} (h : k < l.length) : upd (lsT l) k v = lsT (l.set k v) := by
  funext i
  unfold upd lsT
  by_cases q : i = k
  · subst q
    rw [if_pos rfl, List.getD_eq_getElem?_getD, List.getElem?_set_self h]; rfl
  · rw [if_neg q, List.getD_eq_getElem?_getD, List.getD_eq_getElem?_getD, List.getElem?_set_ne (Ne.symm q)]
theorem dk_inN {k : Int32} {n : Nat} (h : dk_in k n) : k.toNatClampNeg < n := by
  rcases Nat.lt_or_ge k.toNatClampNeg n with q | q
  · exact q
  · exact absurd (Or.inr q) h
/-- a word laid into a tree that is a list -/
def aW (v1 : Int32) : Nat → Int32 → Int32 → ob_LineReader → List Int32 → Option (Int32 × ob_LineReader × List Int32)
  | 0, _, _, _, _ => none
  | n + 1, w5, w4, o, l => if w5 ≤ (0 : Int32) then some (w4, o, l) else (if dk_in ((2 * w4) + ((v1 >>> (w5 &&& 31)) &&& 1)) 1024 then (if l.getD ((2 * w4) + ((v1 >>> (w5 &&& 31)) &&& 1)).toNatClampNeg 0 = (0 : Int32) then (if (512 : Int32) ≤ (fd_LineReader_nodes o) then aW v1 n (w5 + (-1)) (if (0 : Int32) < l.getD ((2 * w4) + ((v1 >>> (w5 &&& 31)) &&& 1)).toNatClampNeg 0 then l.getD ((2 * w4) + ((v1 >>> (w5 &&& 31)) &&& 1)).toNatClampNeg 0 else 0) o l else aW v1 n (w5 + (-1)) (if (0 : Int32) < (l.set ((2 * w4) + ((v1 >>> (w5 &&& 31)) &&& 1)).toNatClampNeg (fd_LineReader_nodes o)).getD ((2 * w4) + ((v1 >>> (w5 &&& 31)) &&& 1)).toNatClampNeg 0 then (l.set ((2 * w4) + ((v1 >>> (w5 &&& 31)) &&& 1)).toNatClampNeg (fd_LineReader_nodes o)).getD ((2 * w4) + ((v1 >>> (w5 &&& 31)) &&& 1)).toNatClampNeg 0 else 0) (fs_LineReader_nodes o ((fd_LineReader_nodes o) + 1)) (l.set ((2 * w4) + ((v1 >>> (w5 &&& 31)) &&& 1)).toNatClampNeg (fd_LineReader_nodes o))) else aW v1 n (w5 + (-1)) (if (0 : Int32) < l.getD ((2 * w4) + ((v1 >>> (w5 &&& 31)) &&& 1)).toNatClampNeg 0 then l.getD ((2 * w4) + ((v1 >>> (w5 &&& 31)) &&& 1)).toNatClampNeg 0 else 0) o l) else none)
theorem aW_ok {v1 : Int32} : ∀ (n : Nat) (w5 w4 : Int32) (o : ob_LineReader) (l : List Int32) (r : Int32 × ob_LineReader × List Int32), l.length = 1024 → aW v1 n w5 w4 o l = some r → lp_LineReader_addWord_11 v1 n w5 w4 o (lsT l) = some (r.1, r.2.1, lsT r.2.2) ∧ r.2.2.length = 1024 := by
  intro n
  induction n with
  | zero => intro w5 w4 o l r hl h; cases h
  | succ n ih =>
    intro w5 w4 o l r hl h
    rw [aW] at h
    rw [lp_LineReader_addWord_11]
    by_cases c0 : w5 ≤ 0
    · rw [if_pos c0] at h ⊢
      obtain rfl := Option.some.inj h
      exact ⟨rfl, hl⟩
    · rw [if_neg c0] at h ⊢
      by_cases c1 : dk_in ((2 * w4) + ((v1 >>> (w5 &&& 31)) &&& 1)) 1024
      · rw [if_pos c1] at h ⊢
        by_cases c2 : l.getD ((2 * w4) + ((v1 >>> (w5 &&& 31)) &&& 1)).toNatClampNeg 0 = (0 : Int32)
        · rw [if_pos c2] at h
          refine (show _ ∧ _ from ⟨(if_pos (show lsT l _ = 0 from c2)).trans ?_, ?_⟩)
          all_goals by_cases c3 : (512 : Int32) ≤ fd_LineReader_nodes o
          · refine (if_pos c3).trans ((if_pos c1).trans ?_)
            rw [if_pos c3] at h
            exact (ih _ _ _ _ _ hl h).1
          · refine (if_neg c3).trans ((if_pos c1).trans ?_)
            rw [if_neg c3] at h
            unfold dk_let
            refine (if_pos c1).trans ?_
            rw [upd_ls (by rw [hl]; exact dk_inN c1)]
            exact (ih _ _ _ _ _ (by rw [List.length_set]; exact hl) h).1
          · rw [if_pos c3] at h
            exact (ih _ _ _ _ _ hl h).2
          · rw [if_neg c3] at h
            exact (ih _ _ _ _ _ (by rw [List.length_set]; exact hl) h).2
        · rw [if_neg c2] at h
          refine ⟨(if_neg (show ¬ lsT l _ = 0 from c2)).trans ((if_pos c1).trans ?_), (ih _ _ _ _ _ hl h).2⟩
          exact (ih _ _ _ _ _ hl h).1
      · rw [if_neg c1] at h; cases h
def aWord (N : Nat) (o : ob_LineReader) (l : List Int32) (v0 v1 v2 : Int32) : Option (ob_LineReader × List Int32) := (ex_Coder_bitsOf N v1).bind (fun u => (aW v1 N (u - 1) v0 o l).bind (fun out => if dk_in ((2 * out.1) + (v1 &&& 1)) 1024 then some (out.2.1, out.2.2.set ((2 * out.1) + (v1 &&& 1)).toNatClampNeg ((-1) - v2)) else none))
theorem aWord_ok {N : Nat} {o : ob_LineReader} {l : List Int32} {v0 v1 v2 : Int32} {r : ob_LineReader × List Int32} (hl : l.length = 1024) (h : aWord N o l v0 v1 v2 = some r) : ex_LineReader_addWord N o (lsT l) v0 v1 v2 = some (r.1, lsT r.2) ∧ r.2.length = 1024 := by
  unfold aWord at h
  obtain ⟨u, hu, h⟩ := Option.bind_eq_some_iff.mp h
  obtain ⟨out, ho, h⟩ := Option.bind_eq_some_iff.mp h
  obtain ⟨e1, e2⟩ := aW_ok _ _ _ _ _ _ hl ho
  by_cases c : dk_in ((2 * out.1) + (v1 &&& 1)) 1024
  · rw [if_pos c] at h
    obtain rfl := Option.some.inj h
    refine ⟨?_, by rw [List.length_set]; exact e2⟩
    unfold ex_LineReader_addWord
    refine (bind_eq hu).trans ?_
    refine (bind_eq e1).trans ?_
    refine (if_pos c).trans ?_
    unfold dk_let
    rw [upd_ls (by rw [e2]; exact dk_inN c)]
  · rw [if_neg c] at h; cases h
/-- words of a table, one by one -/
def gLp (C : Int32) (c : Nat) (tab mean : Int32 → Int32) (N : Nat) (v0 : Int32) : Nat → Int32 → ob_LineReader → (Nat → Int32) → Option (ob_LineReader × (Nat → Int32))
  | 0, _, _, _ => none
  | n + 1, w, o, g => if C ≤ w then some (o, g) else (if dk_in w c then ((ex_LineReader_addWord N o g v0 (tab w) (mean w)).bind (fun u => gLp C c tab mean N v0 n (w + 1) u.1 u.2)) else none)
def aLp (C : Int32) (c : Nat) (tab mean : Int32 → Int32) (N : Nat) (v0 : Int32) : Nat → Int32 → ob_LineReader → List Int32 → Option (ob_LineReader × List Int32)
  | 0, _, _, _ => none
  | n + 1, w, o, l => if C ≤ w then some (o, l) else (if dk_in w c then ((aWord N o l v0 (tab w) (mean w)).bind (fun u => aLp C c tab mean N v0 n (w + 1) u.1 u.2)) else none)
theorem aLp_ok {C : Int32} {c : Nat} {tab mean : Int32 → Int32} {N : Nat} {v0 : Int32} : ∀ (n : Nat) (w : Int32) (o : ob_LineReader) (l : List Int32) (r : ob_LineReader × List Int32), l.length = 1024 → aLp C c tab mean N v0 n w o l = some r → gLp C c tab mean N v0 n w o (lsT l) = some (r.1, lsT r.2) ∧ r.2.length = 1024 := by
  intro n
  induction n with
  | zero => intro w o l r hl h; cases h
  | succ n ih =>
    intro w o l r hl h
    rw [aLp] at h
    rw [gLp]
    by_cases c0 : C ≤ w
    · rw [if_pos c0] at h ⊢
      obtain rfl := Option.some.inj h
      exact ⟨rfl, hl⟩
    · rw [if_neg c0] at h ⊢
      by_cases c1 : dk_in w c
      · rw [if_pos c1] at h ⊢
        obtain ⟨u, hu, h⟩ := Option.bind_eq_some_iff.mp h
        obtain ⟨e1, e2⟩ := aWord_ok hl hu
        refine ⟨(bind_eq e1).trans ?_, (ih _ _ _ _ e2 h).2⟩
        exact (ih _ _ _ _ e2 h).1
      · rw [if_neg c1] at h; cases h
theorem lpg_m {N : Nat} {v0 : Int32} : ∀ (n : Nat) (w : Int32) (o : ob_LineReader) (g : Nat → Int32), lp_LineReader_addModes_20 N v0 n w o g = gLp 7 7 (fun w => tb_Coder_SHIFTS w.toNatClampNeg) (fun w => w) N v0 n w o g := by
  intro n
  induction n with
  | zero => intro w o g; rfl
  | succ n ih => intro w o g; rw [lp_LineReader_addModes_20, gLp]; simp only [ih]
theorem lpg_w1 {N : Nat} {v0 : Int32} : ∀ (n : Nat) (w : Int32) (o : ob_LineReader) (g : Nat → Int32), lp_LineReader_addRuns_WHITE_RESTS_WHITE_BLOCKS_3 N v0 n w o g = gLp 64 64 (fun w => tb_Coder_WHITE_RESTS w.toNatClampNeg) (fun w => w) N v0 n w o g := by
  intro n
  induction n with
  | zero => intro w o g; rfl
  | succ n ih => intro w o g; rw [lp_LineReader_addRuns_WHITE_RESTS_WHITE_BLOCKS_3, gLp]; simp only [ih]
theorem lpg_w2 {N : Nat} {v0 : Int32} : ∀ (n : Nat) (w : Int32) (o : ob_LineReader) (g : Nat → Int32), lp_LineReader_addRuns_WHITE_RESTS_WHITE_BLOCKS_30c2 N v0 n w o g = gLp 27 27 (fun w => tb_Coder_WHITE_BLOCKS w.toNatClampNeg) (fun w => 64 + (64 * w)) N v0 n w o g := by
  intro n
  induction n with
  | zero => intro w o g; rfl
  | succ n ih => intro w o g; rw [lp_LineReader_addRuns_WHITE_RESTS_WHITE_BLOCKS_30c2, gLp]; simp only [ih]
theorem lpg_w3 {N : Nat} {v0 : Int32} : ∀ (n : Nat) (w : Int32) (o : ob_LineReader) (g : Nat → Int32), lp_LineReader_addRuns_WHITE_RESTS_WHITE_BLOCKS_63d3 N v0 n w o g = gLp 13 13 (fun w => tb_Coder_LONG_BLOCKS w.toNatClampNeg) (fun w => 1792 + (64 * w)) N v0 n w o g := by
  intro n
  induction n with
  | zero => intro w o g; rfl
  | succ n ih => intro w o g; rw [lp_LineReader_addRuns_WHITE_RESTS_WHITE_BLOCKS_63d3, gLp]; simp only [ih]
theorem lpg_b1 {N : Nat} {v0 : Int32} : ∀ (n : Nat) (w : Int32) (o : ob_LineReader) (g : Nat → Int32), lp_LineReader_addRuns_BLACK_RESTS_BLACK_BLOCKS_3 N v0 n w o g = gLp 64 64 (fun w => tb_Coder_BLACK_RESTS w.toNatClampNeg) (fun w => w) N v0 n w o g := by
  intro n
  induction n with
  | zero => intro w o g; rfl
  | succ n ih => intro w o g; rw [lp_LineReader_addRuns_BLACK_RESTS_BLACK_BLOCKS_3, gLp]; simp only [ih]
theorem lpg_b2 {N : Nat} {v0 : Int32} : ∀ (n : Nat) (w : Int32) (o : ob_LineReader) (g : Nat → Int32), lp_LineReader_addRuns_BLACK_RESTS_BLACK_BLOCKS_30c2 N v0 n w o g = gLp 27 27 (fun w => tb_Coder_BLACK_BLOCKS w.toNatClampNeg) (fun w => 64 + (64 * w)) N v0 n w o g := by
  intro n
  induction n with
  | zero => intro w o g; rfl
  | succ n ih => intro w o g; rw [lp_LineReader_addRuns_BLACK_RESTS_BLACK_BLOCKS_30c2, gLp]; simp only [ih]
theorem lpg_b3 {N : Nat} {v0 : Int32} : ∀ (n : Nat) (w : Int32) (o : ob_LineReader) (g : Nat → Int32), lp_LineReader_addRuns_BLACK_RESTS_BLACK_BLOCKS_63d3 N v0 n w o g = gLp 13 13 (fun w => tb_Coder_LONG_BLOCKS w.toNatClampNeg) (fun w => 1792 + (64 * w)) N v0 n w o g := by
  intro n
  induction n with
  | zero => intro w o g; rfl
  | succ n ih => intro w o g; rw [lp_LineReader_addRuns_BLACK_RESTS_BLACK_BLOCKS_63d3, gLp]; simp only [ih]
def aModes (N : Nat) (o : ob_LineReader) (l : List Int32) (v0 : Int32) : Option (ob_LineReader × List Int32) := (aWord N o l v0 17 20).bind (fun a => (aWord N a.1 a.2 v0 9 21).bind (fun b => aLp 7 7 (fun w => tb_Coder_SHIFTS w.toNatClampNeg) (fun w => w) N v0 N 0 b.1 b.2))
theorem aModes_ok {N : Nat} {o : ob_LineReader} {l : List Int32} {v0 : Int32} {r : ob_LineReader × List Int32} (hl : l.length = 1024) (h : aModes N o l v0 = some r) : ex_LineReader_addModes N o (lsT l) v0 = some (r.1, lsT r.2) ∧ r.2.length = 1024 := by
  unfold aModes at h
  obtain ⟨a, ha, h⟩ := Option.bind_eq_some_iff.mp h
  obtain ⟨b, hb, h⟩ := Option.bind_eq_some_iff.mp h
  obtain ⟨a1, a2⟩ := aWord_ok hl ha
  obtain ⟨b1, b2⟩ := aWord_ok a2 hb
  obtain ⟨c1, c2⟩ := aLp_ok _ _ _ _ _ b2 h
  refine ⟨?_, c2⟩
  unfold ex_LineReader_addModes
  refine (bind_eq a1).trans ?_
  refine (bind_eq b1).trans ?_
  refine (bind_eq ((lpg_m _ _ _ _).trans c1)).trans ?_
  rfl
def aRuns (t1 t2 : Nat → Int32) (N : Nat) (o : ob_LineReader) (l : List Int32) (v0 : Int32) : Option (ob_LineReader × List Int32) := (aLp 64 64 (fun w => t1 w.toNatClampNeg) (fun w => w) N v0 N 0 o l).bind (fun a => (aLp 27 27 (fun w => t2 w.toNatClampNeg) (fun w => 64 + (64 * w)) N v0 N 0 a.1 a.2).bind (fun b => aLp 13 13 (fun w => tb_Coder_LONG_BLOCKS w.toNatClampNeg) (fun w => 1792 + (64 * w)) N v0 N 0 b.1 b.2))
theorem aRunsW_ok {N : Nat} {o : ob_LineReader} {l : List Int32} {v0 : Int32} {r : ob_LineReader × List Int32} (hl : l.length = 1024) (h : aRuns tb_Coder_WHITE_RESTS tb_Coder_WHITE_BLOCKS N o l v0 = some r) : ex_LineReader_addRuns_WHITE_RESTS_WHITE_BLOCKS N o (lsT l) v0 = some (r.1, lsT r.2) ∧ r.2.length = 1024 := by
  unfold aRuns at h
  obtain ⟨a, ha, h⟩ := Option.bind_eq_some_iff.mp h
  obtain ⟨b, hb, h⟩ := Option.bind_eq_some_iff.mp h
  obtain ⟨a1, a2⟩ := aLp_ok _ _ _ _ _ hl ha
  obtain ⟨b1, b2⟩ := aLp_ok _ _ _ _ _ a2 hb
  obtain ⟨c1, c2⟩ := aLp_ok _ _ _ _ _ b2 h
  refine ⟨?_, c2⟩
  unfold ex_LineReader_addRuns_WHITE_RESTS_WHITE_BLOCKS
  refine (bind_eq ((lpg_w1 _ _ _ _).trans a1)).trans ?_
  refine (bind_eq ((lpg_w2 _ _ _ _).trans b1)).trans ?_
  refine (bind_eq ((lpg_w3 _ _ _ _).trans c1)).trans ?_
  rfl
theorem aRunsB_ok {N : Nat} {o : ob_LineReader} {l : List Int32} {v0 : Int32} {r : ob_LineReader × List Int32} (hl : l.length = 1024) (h : aRuns tb_Coder_BLACK_RESTS tb_Coder_BLACK_BLOCKS N o l v0 = some r) : ex_LineReader_addRuns_BLACK_RESTS_BLACK_BLOCKS N o (lsT l) v0 = some (r.1, lsT r.2) ∧ r.2.length = 1024 := by
  unfold aRuns at h
  obtain ⟨a, ha, h⟩ := Option.bind_eq_some_iff.mp h
  obtain ⟨b, hb, h⟩ := Option.bind_eq_some_iff.mp h
  obtain ⟨a1, a2⟩ := aLp_ok _ _ _ _ _ hl ha
  obtain ⟨b1, b2⟩ := aLp_ok _ _ _ _ _ a2 hb
  obtain ⟨c1, c2⟩ := aLp_ok _ _ _ _ _ b2 h
  refine ⟨?_, c2⟩
  unfold ex_LineReader_addRuns_BLACK_RESTS_BLACK_BLOCKS
  refine (bind_eq ((lpg_b1 _ _ _ _).trans a1)).trans ?_
  refine (bind_eq ((lpg_b2 _ _ _ _).trans b1)).trans ?_
  refine (bind_eq ((lpg_b3 _ _ _ _).trans c1)).trans ?_
  rfl
/-- the six steps of the reader's constructor -/
def aZ : List Int32 := List.replicate 1024 0
def rdO (nd : Int32) : ob_LineReader := (nd, 0, 0, 0, 0, 0, 0, 0, 0, 0, 0)
theorem getD_ok {α : Type} {x : Option α} {d : α} (h : x.isSome = true) : x = some (x.getD d) := by
  cases x with
  | none => cases h
  | some a => rfl
theorem aW_o {v1 : Int32} : ∀ (n : Nat) (w5 w4 : Int32) (o : ob_LineReader) (l : List Int32) (r : Int32 × ob_LineReader × List Int32), aW v1 n w5 w4 o l = some r → r.2.1.2 = o.2 := by
  intro n
  induction n with
  | zero => intro w5 w4 o l r h; cases h
  | succ n ih =>
    intro w5 w4 o l r h
    rw [aW] at h
    by_cases c0 : w5 ≤ 0
    · rw [if_pos c0] at h
      rw [← Option.some.inj h]
    · rw [if_neg c0] at h
      by_cases c1 : dk_in ((2 * w4) + ((v1 >>> (w5 &&& 31)) &&& 1)) 1024
      · rw [if_pos c1] at h
        by_cases c2 : l.getD ((2 * w4) + ((v1 >>> (w5 &&& 31)) &&& 1)).toNatClampNeg 0 = (0 : Int32)
        · rw [if_pos c2] at h
          by_cases c3 : (512 : Int32) ≤ fd_LineReader_nodes o
          · rw [if_pos c3] at h
            exact ih _ _ _ _ _ h
          · rw [if_neg c3] at h
            have z := ih _ _ _ _ _ h
            exact z
        · rw [if_neg c2] at h
          exact ih _ _ _ _ _ h
      · rw [if_neg c1] at h; cases h
theorem aWord_o {N : Nat} {o : ob_LineReader} {l : List Int32} {v0 v1 v2 : Int32} {r : ob_LineReader × List Int32} (h : aWord N o l v0 v1 v2 = some r) : r.1.2 = o.2 := by
  unfold aWord at h
  obtain ⟨u, hu, h⟩ := Option.bind_eq_some_iff.mp h
  obtain ⟨out, ho, h⟩ := Option.bind_eq_some_iff.mp h
  by_cases c : dk_in ((2 * out.1) + (v1 &&& 1)) 1024
  · rw [if_pos c] at h
    rw [← Option.some.inj h]
    exact aW_o _ _ _ _ _ _ ho
  · rw [if_neg c] at h; cases h
theorem aLp_o {C : Int32} {c : Nat} {tab mean : Int32 → Int32} {N : Nat} {v0 : Int32} : ∀ (n : Nat) (w : Int32) (o : ob_LineReader) (l : List Int32) (r : ob_LineReader × List Int32), aLp C c tab mean N v0 n w o l = some r → r.1.2 = o.2 := by
  intro n
  induction n with
  | zero => intro w o l r h; cases h
  | succ n ih =>
    intro w o l r h
    rw [aLp] at h
    by_cases c0 : C ≤ w
    · rw [if_pos c0] at h
      rw [← Option.some.inj h]
    · rw [if_neg c0] at h
      by_cases c1 : dk_in w c
      · rw [if_pos c1] at h
        obtain ⟨u, hu, h⟩ := Option.bind_eq_some_iff.mp h
        exact (ih _ _ _ _ h).trans (aWord_o hu)
      · rw [if_neg c1] at h; cases h
theorem aModes_o {N : Nat} {o : ob_LineReader} {l : List Int32} {v0 : Int32} {r : ob_LineReader × List Int32} (h : aModes N o l v0 = some r) : r.1.2 = o.2 := by
  unfold aModes at h
  obtain ⟨a, ha, h⟩ := Option.bind_eq_some_iff.mp h
  obtain ⟨b, hb, h⟩ := Option.bind_eq_some_iff.mp h
  exact (aLp_o _ _ _ _ _ h).trans ((aWord_o hb).trans (aWord_o ha))
theorem aRuns_o {t1 t2 : Nat → Int32} {N : Nat} {o : ob_LineReader} {l : List Int32} {v0 : Int32} {r : ob_LineReader × List Int32} (h : aRuns t1 t2 N o l v0 = some r) : r.1.2 = o.2 := by
  unfold aRuns at h
  obtain ⟨a, ha, h⟩ := Option.bind_eq_some_iff.mp h
  obtain ⟨b, hb, h⟩ := Option.bind_eq_some_iff.mp h
  exact (aLp_o _ _ _ _ _ h).trans ((aLp_o _ _ _ _ _ hb).trans (aLp_o _ _ _ _ _ ha))
theorem rdO_of {o : ob_LineReader} (h : o.2 = (rdO 0).2) : o = rdO o.1 := by
  obtain ⟨a, b⟩ := o
  subst h
  rfl
def pdI (l : List Int) : List Int32 := l.map iI ++ List.replicate (1024 - l.length) 0
def aFold (N : Nat) (v0 : Int32) : List (Int32 × Int32) → ob_LineReader → List Int32 → Option (ob_LineReader × List Int32)
  | [], o, l => some (o, l)
  | q :: qs, o, l => (aWord N o l v0 q.1 q.2).bind (fun u => aFold N v0 qs u.1 u.2)
theorem aFold_o {N : Nat} {v0 : Int32} : ∀ (qs : List (Int32 × Int32)) (o : ob_LineReader) (l : List Int32) (r : ob_LineReader × List Int32), aFold N v0 qs o l = some r → r.1.2 = o.2 := by
  intro qs
  induction qs with
  | nil => intro o l r h; rw [← Option.some.inj h]
  | cons q qs ih =>
    intro o l r h
    obtain ⟨u, hu, h⟩ := Option.bind_eq_some_iff.mp (show (aWord N o l v0 q.1 q.2).bind (fun u => aFold N v0 qs u.1 u.2) = some r from h)
    exact (ih _ _ _ h).trans (aWord_o hu)
theorem aFold_app {N : Nat} {v0 : Int32} : ∀ (ps qs : List (Int32 × Int32)) (o : ob_LineReader) (l : List Int32) (s r : ob_LineReader × List Int32), aFold N v0 ps o l = some s → aFold N v0 qs s.1 s.2 = some r → aFold N v0 (ps ++ qs) o l = some r := by
  intro ps
  induction ps with
  | nil => intro qs o l s r h1 h2; obtain rfl := Option.some.inj h1; exact h2
  | cons p ps ih =>
    intro qs o l s r h1 h2
    obtain ⟨u, hu, h1⟩ := Option.bind_eq_some_iff.mp (show (aWord N o l v0 p.1 p.2).bind (fun u => aFold N v0 ps u.1 u.2) = some s from h1)
    exact (bind_eq hu).trans (ih qs _ _ s r h1 h2)
/-- the words of a table from a place on -/
def wFrom (tab mean : Int32 → Int32) (c : Nat) : Nat → List (Int32 × Int32)
  | 0 => []
  | r + 1 => (tab (nI (c - (r + 1))), mean (nI (c - (r + 1)))) :: wFrom tab mean c r
theorem gLp_fold {c : Nat} {tab mean : Int32 → Int32} {N : Nat} {v0 : Int32} (hc : c < 1000) : ∀ (r n : Nat) (o : ob_LineReader) (l : List Int32) (s : ob_LineReader × List Int32), r ≤ c → r < n → l.length = 1024 → aFold N v0 (wFrom tab mean c r) o l = some s → gLp (nI c) c tab mean N v0 n (nI (c - r)) o (lsT l) = some (s.1, lsT s.2) ∧ s.2.length = 1024 := by
  intro r
  induction r with
  | zero =>
    intro n o l s hr hn hl h
    obtain ⟨n, rfl⟩ : ∃ k, n = k + 1 := ⟨n - 1, by omega⟩
    obtain rfl := Option.some.inj h
    rw [gLp, if_pos (nI_le (by omega) (by omega))]
    exact ⟨rfl, hl⟩
  | succ r ih =>
    intro n o l s hr hn hl h
    obtain ⟨n, rfl⟩ : ∃ k, n = k + 1 := ⟨n - 1, by omega⟩
    obtain ⟨u, hu, h⟩ := Option.bind_eq_some_iff.mp (show (aWord N o l v0 (tab (nI (c - (r + 1)))) (mean (nI (c - (r + 1))))).bind (fun u => aFold N v0 (wFrom tab mean c r) u.1 u.2) = some s from h)
    obtain ⟨e1, e2⟩ := aWord_ok hl hu
    have hi := ih n u.1 u.2 s (by omega) (by omega) e2 h
    refine ⟨?_, hi.2⟩
    rw [gLp, if_neg (mt (nI_leI (by omega) (by omega)).mp (by omega)), if_pos (dk_in_nI (by omega) (by omega))]
    refine (bind_eq e1).trans ?_
    rw [show nI (c - (r + 1)) + 1 = nI (c - r) by rw [show nI (c - (r + 1)) + 1 = nI (c - (r + 1) + 1) from nI_add _ 1]; congr 1; omega]
    exact hi.1
def ckA2 (x : Option (ob_LineReader × List Int32)) (nd : Int32) (L : List Int32) : Bool := x.any (fun s => s.1.1 == nd && s.2 == L)
theorem ckA2_ok {N : Nat} {v0 nd0 nd : Int32} {qs : List (Int32 × Int32)} {l L : List Int32} (h : ckA2 (aFold N v0 qs (rdO nd0) l) nd L = true) : aFold N v0 qs (rdO nd0) l = some (rdO nd, L) := by
  cases hx : aFold N v0 qs (rdO nd0) l with
  | none => rw [hx] at h; cases h
  | some s =>
    rw [hx] at h
    have h2 : (s.1.1 == nd && s.2 == L) = true := h
    rw [Bool.and_eq_true] at h2
    have e := aFold_o _ _ _ _ hx
    obtain ⟨⟨a, b⟩, c⟩ := s
    have e1 : a = nd := eq_of_beq h2.1
    have e2 : c = L := eq_of_beq h2.2
    have e3 : b = (rdO nd0).2 := e
    subst e1; subst e2; subst e3
    rfl
def tL1 : List Int := [5, 0, 0, 0, 0, 0, 0, 0, 0, 0, 6, 0, 7, -22, 0, -21]
theorem tK1 : aFold 200 0 [(17, 20), (9, 21)] (rdO 5) (pdI []) = some (rdO 8, pdI tL1) := ckA2_ok (by decide +kernel)
set_option maxRecDepth 100000 in
theorem tB_m0a : aFold 200 0 [(17, 20), (9, 21)] (rdO 5) (pdI []) = some (rdO 8, pdI tL1) := tK1
def tL2 : List Int := [5, -4, 0, 0, 0, 0, 0, 0, 0, 0, 6, 12, 7, -22, 8, -21, 9, 11, 0, 10, -1, -7, -2, -6, -3, -5]
theorem tK2 : aFold 200 0 [(130, 0), (66, 1), (10, 2), (3, 3), (11, 4), (67, 5), (131, 6)] (rdO 8) (pdI tL1) = some (rdO 13, pdI tL2) := ckA2_ok (by decide +kernel)
set_option maxRecDepth 100000 in
theorem tB_m0b : aFold 200 0 [(130, 0), (66, 1), (10, 2), (3, 3), (11, 4), (67, 5), (131, 6)] (rdO 8) (pdI tL1) = some (rdO 13, pdI tL2) := tK2
def tL3 : List Int := [5, -4, 13, 0, 0, 0, 0, 0, 0, 0, 6, 12, 7, -22, 8, -21, 9, 11, 0, 10, -1, -7, -2, -6, -3, -5, 14, 0, 15, -22, 0, -21]
theorem tK3 : aFold 200 1 [(17, 20), (9, 21)] (rdO 13) (pdI tL2) = some (rdO 16, pdI tL3) := ckA2_ok (by decide +kernel)
set_option maxRecDepth 100000 in
theorem tB_m1a : aFold 200 1 [(17, 20), (9, 21)] (rdO 13) (pdI tL2) = some (rdO 16, pdI tL3) := tK3
def tL4 : List Int := [5, -4, 13, -4, 0, 0, 0, 0, 0, 0, 6, 12, 7, -22, 8, -21, 9, 11, 0, 10, -1, -7, -2, -6, -3, -5, 14, 20, 15, -22, 16, -21, 17, 19, 0, 18, -1, -7, -2, -6, -3, -5]
theorem tK4 : aFold 200 1 [(130, 0), (66, 1), (10, 2), (3, 3), (11, 4), (67, 5), (131, 6)] (rdO 16) (pdI tL3) = some (rdO 21, pdI tL4) := ckA2_ok (by decide +kernel)
set_option maxRecDepth 100000 in
theorem tB_m1b : aFold 200 1 [(130, 0), (66, 1), (10, 2), (3, 3), (11, 4), (67, 5), (131, 6)] (rdO 16) (pdI tL3) = some (rdO 21, pdI tL4) := tK4
def tL5 : List Int := [5, -4, 13, -4, 0, 0, 0, 0, 0, 0, 6, 12, 7, -22, 8, -21, 9, 11, 21, 10, -1, -7, -2, -6, -3, -5, 14, 20, 15, -22, 16, -21, 17, 19, 0, 18, -1, -7, -2, -6, -3, -5, 22, 0, 23, 0, 24, 0, 25, 0, 26, 0, 0, -23]
theorem tK5 : aFold 200 0 [(4097, 22)] (rdO 21) (pdI tL4) = some (rdO 27, pdI tL5) := ckA2_ok (by decide +kernel)
set_option maxRecDepth 100000 in
theorem tB_w0 : aFold 200 0 [(4097, 22)] (rdO 21) (pdI tL4) = some (rdO 27, pdI tL5) := tK5
def tL6 : List Int := [5, -4, 13, -4, 27, 0, 0, 0, 0, 0, 6, 12, 7, -22, 8, -21, 9, 11, 21, 10, -1, -7, -2, -6, -3, -5, 14, 20, 15, -22, 16, -21, 17, 19, 0, 18, -1, -7, -2, -6, -3, -5, 22, 0, 23, 0, 24, 0, 25, 0, 26, 0, 0, -23, 28, 0, 29, 0, 30, 0, 31, 0, 32, 0, 33, 0, 34, 0, 35, 0, 36, 0, 37, 0, 0, -23]
theorem tK6 : aFold 200 2 [(4097, 22)] (rdO 27) (pdI tL5) = some (rdO 38, pdI tL6) := ckA2_ok (by decide +kernel)
set_option maxRecDepth 100000 in
theorem tB_w2 : aFold 200 2 [(4097, 22)] (rdO 27) (pdI tL5) = some (rdO 38, pdI tL6) := tK6
def tL7 : List Int := [5, -4, 13, -4, 27, 0, 38, 50, 0, 0, 6, 12, 7, -22, 8, -21, 9, 11, 21, 10, -1, -7, -2, -6, -3, -5, 14, 20, 15, -22, 16, -21, 17, 19, 0, 18, -1, -7, -2, -6, -3, -5, 22, 0, 23, 0, 24, 0, 25, 0, 26, 0, 0, -23, 28, 0, 29, 0, 30, 0, 31, 0, 32, 0, 33, 0, 34, 0, 35, 0, 36, 0, 37, 0, 0, -23, 39, 48, 45, 40, 0, 41, 42, 0, 0, 43, 44, 0, 0, -1, 0, 46, 0, 47, 0, -2, 0, 49, 0, -3, 51, 54, 52, 53, -4, 0, 0, -5, 55, 56, -6, 0, -7, -8]
theorem tK7 : aFold 200 3 [(309, 0), (71, 1), (23, 2), (24, 3), (27, 4), (28, 5), (30, 6), (31, 7)] (rdO 38) (pdI tL6) = some (rdO 57, pdI tL7) := ckA2_ok (by decide +kernel)
def tL8 : List Int := [5, -4, 13, -4, 27, 0, 38, 50, 0, 0, 6, 12, 7, -22, 8, -21, 9, 11, 21, 10, -1, -7, -2, -6, -3, -5, 14, 20, 15, -22, 16, -21, 17, 19, 0, 18, -1, -7, -2, -6, -3, -5, 22, 0, 23, 0, 24, 0, 25, 0, 26, 0, 0, -23, 28, 0, 29, 0, 30, 0, 31, 0, 32, 0, 33, 0, 34, 0, 35, 0, 36, 0, 37, 0, 0, -23, 39, 48, 45, 40, 61, 41, 42, -11, 0, 43, 44, 0, 0, -1, 63, 46, 0, 47, 0, -2, 59, 49, 0, -3, 51, 54, 52, 53, -4, 57, 58, -5, 55, 56, -6, 65, -7, -8, 0, -9, -10, 0, 60, 0, -12, 0, 62, 0, -13, 0, 0, 64, 0, -14, 66, 0, -15, -16]
theorem tK8 : aFold 200 3 [(51, 8), (52, 9), (39, 10), (40, 11), (72, 12), (67, 13), (116, 14), (117, 15)] (rdO 57) (pdI tL7) = some (rdO 67, pdI tL8) := ckA2_ok (by decide +kernel)
def tL9 : List Int := [5, -4, 13, -4, 27, 0, 38, 50, 0, 0, 6, 12, 7, -22, 8, -21, 9, 11, 21, 10, -1, -7, -2, -6, -3, -5, 14, 20, 15, -22, 16, -21, 17, 19, 0, 18, -1, -7, -2, -6, -3, -5, 22, 0, 23, 0, 24, 0, 25, 0, 26, 0, 0, -23, 28, 0, 29, 0, 30, 0, 31, 0, 32, 0, 33, 0, 34, 0, 35, 0, 36, 0, 37, 0, 0, -23, 39, 48, 45, 40, 61, 41, 42, -11, 0, 43, 44, 0, 0, -1, 63, 46, 71, 47, 70, -2, 59, 49, 0, -3, 51, 54, 52, 53, -4, 57, 58, -5, 55, 56, -6, 65, -7, -8, 0, -9, -10, 67, 60, 0, -12, 68, 62, 73, -13, 0, 75, 64, 77, -14, 66, 0, -15, -16, -17, -18, 0, 69, 0, -19, -20, 0, 72, 0, -21, 0, 0, 74, 0, -22, 0, 76, 0, -23, -24]
theorem tK9 : aFold 200 3 [(106, 16), (107, 17), (167, 18), (140, 19), (136, 20), (151, 21), (131, 22), (132, 23)] (rdO 67) (pdI tL8) = some (rdO 78, pdI tL9) := ckA2_ok (by decide +kernel)
def tL10 : List Int := [5, -4, 13, -4, 27, 0, 38, 50, 0, 0, 6, 12, 7, -22, 8, -21, 9, 11, 21, 10, -1, -7, -2, -6, -3, -5, 14, 20, 15, -22, 16, -21, 17, 19, 0, 18, -1, -7, -2, -6, -3, -5, 22, 0, 23, 0, 24, 0, 25, 0, 26, 0, 0, -23, 28, 0, 29, 0, 30, 0, 31, 0, 32, 0, 33, 0, 34, 0, 35, 0, 36, 0, 37, 0, 0, -23, 39, 48, 45, 40, 61, 41, 42, -11, 84, 43, 44, 0, 0, -1, 63, 46, 71, 47, 70, -2, 59, 49, 0, -3, 51, 54, 52, 53, -4, 57, 58, -5, 55, 56, -6, 65, -7, -8, 0, -9, -10, 67, 60, 78, -12, 68, 62, 73, -13, 82, 75, 64, 77, -14, 66, 0, -15, -16, -17, -18, 83, 69, 0, -19, -20, 87, 72, 0, -21, 0, 0, 74, 0, -22, 85, 76, 0, -23, -24, 0, 79, 0, 80, 81, -25, 0, 0, -26, 0, -27, -28, 0, -29, 0, 0, 86, -30, -31, -32]
theorem tK10 : aFold 200 3 [(168, 24), (171, 25), (147, 26), (164, 27), (152, 28), (258, 29), (259, 30), (282, 31)] (rdO 78) (pdI tL9) = some (rdO 88, pdI tL10) := ckA2_ok (by decide +kernel)
def tL11 : List Int := [5, -4, 13, -4, 27, 0, 38, 50, 0, 0, 6, 12, 7, -22, 8, -21, 9, 11, 21, 10, -1, -7, -2, -6, -3, -5, 14, 20, 15, -22, 16, -21, 17, 19, 0, 18, -1, -7, -2, -6, -3, -5, 22, 0, 23, 0, 24, 0, 25, 0, 26, 0, 0, -23, 28, 0, 29, 0, 30, 0, 31, 0, 32, 0, 33, 0, 34, 0, 35, 0, 36, 0, 37, 0, 0, -23, 39, 48, 45, 40, 61, 41, 42, -11, 84, 43, 44, 0, 0, -1, 63, 46, 71, 47, 70, -2, 59, 49, 0, -3, 51, 54, 52, 53, -4, 57, 58, -5, 55, 56, -6, 65, -7, -8, 0, -9, -10, 67, 60, 78, -12, 68, 62, 73, -13, 82, 75, 64, 77, -14, 66, 0, -15, -16, -17, -18, 83, 69, 0, -19, -20, 87, 72, 89, -21, 88, 92, 74, 0, -22, 85, 76, 0, -23, -24, 0, 79, 0, 80, 81, -25, 0, 0, -26, 0, -27, -28, 0, -29, 0, 0, 86, -30, -31, -32, -33, -34, -35, 90, 91, -36, -37, -38, -39, 93, 0, -40]
theorem tK11 : aFold 200 3 [(283, 32), (274, 33), (275, 34), (276, 35), (277, 36), (278, 37), (279, 38), (296, 39)] (rdO 88) (pdI tL10) = some (rdO 94, pdI tL11) := ckA2_ok (by decide +kernel)
def tL12 : List Int := [5, -4, 13, -4, 27, 0, 38, 50, 0, 0, 6, 12, 7, -22, 8, -21, 9, 11, 21, 10, -1, -7, -2, -6, -3, -5, 14, 20, 15, -22, 16, -21, 17, 19, 0, 18, -1, -7, -2, -6, -3, -5, 22, 0, 23, 0, 24, 0, 25, 0, 26, 0, 0, -23, 28, 0, 29, 0, 30, 0, 31, 0, 32, 0, 33, 0, 34, 0, 35, 0, 36, 0, 37, 0, 0, -23, 39, 48, 45, 40, 61, 41, 42, -11, 84, 43, 44, 0, 0, -1, 63, 46, 71, 47, 70, -2, 59, 49, 0, -3, 51, 54, 52, 53, -4, 57, 58, -5, 55, 56, -6, 65, -7, -8, 0, -9, -10, 67, 60, 78, -12, 68, 62, 73, -13, 82, 75, 64, 77, -14, 66, 0, -15, -16, -17, -18, 83, 69, 0, -19, -20, 87, 72, 89, -21, 88, 92, 74, 95, -22, 85, 76, 96, -23, -24, 97, 79, 0, 80, 81, -25, 0, 0, -26, 0, -27, -28, 0, -29, 0, 0, 86, -30, -31, -32, -33, -34, -35, 90, 91, -36, -37, -38, -39, 93, 94, -40, -41, -42, -43, -44, -45, -46, -47, -48]
theorem tK12 : aFold 200 3 [(297, 40), (298, 41), (299, 42), (300, 43), (301, 44), (260, 45), (261, 46), (266, 47)] (rdO 94) (pdI tL11) = some (rdO 98, pdI tL12) := ckA2_ok (by decide +kernel)
def tL13 : List Int := [5, -4, 13, -4, 27, 0, 38, 50, 0, 0, 6, 12, 7, -22, 8, -21, 9, 11, 21, 10, -1, -7, -2, -6, -3, -5, 14, 20, 15, -22, 16, -21, 17, 19, 0, 18, -1, -7, -2, -6, -3, -5, 22, 0, 23, 0, 24, 0, 25, 0, 26, 0, 0, -23, 28, 0, 29, 0, 30, 0, 31, 0, 32, 0, 33, 0, 34, 0, 35, 0, 36, 0, 37, 0, 0, -23, 39, 48, 45, 40, 61, 41, 42, -11, 84, 43, 44, 0, 0, -1, 63, 46, 71, 47, 70, -2, 59, 49, 0, -3, 51, 54, 52, 53, -4, 57, 58, -5, 55, 56, -6, 65, -7, -8, 0, -9, -10, 67, 60, 78, -12, 68, 62, 73, -13, 82, 75, 64, 77, -14, 66, 0, -15, -16, -17, -18, 83, 69, 0, -19, -20, 87, 72, 89, -21, 88, 92, 74, 95, -22, 85, 76, 96, -23, -24, 97, 79, 101, 80, 81, -25, 98, 99, -26, 100, -27, -28, 0, -29, 0, 0, 86, -30, -31, -32, -33, -34, -35, 90, 91, -36, -37, -38, -39, 93, 94, -40, -41, -42, -43, -44, -45, -46, -47, -48, -49, -50, -51, -52, -53, -54, -55, 102, 0, 103, 0, -56]
theorem tK13 : aFold 200 3 [(267, 48), (338, 49), (339, 50), (340, 51), (341, 52), (292, 53), (293, 54), (344, 55)] (rdO 98) (pdI tL12) = some (rdO 104, pdI tL13) := ckA2_ok (by decide +kernel)
def tL14 : List Int := [5, -4, 13, -4, 27, 0, 38, 50, 0, 0, 6, 12, 7, -22, 8, -21, 9, 11, 21, 10, -1, -7, -2, -6, -3, -5, 14, 20, 15, -22, 16, -21, 17, 19, 0, 18, -1, -7, -2, -6, -3, -5, 22, 0, 23, 0, 24, 0, 25, 0, 26, 0, 0, -23, 28, 0, 29, 0, 30, 0, 31, 0, 32, 0, 33, 0, 34, 0, 35, 0, 36, 0, 37, 0, 0, -23, 39, 48, 45, 40, 61, 41, 42, -11, 84, 43, 44, 0, -64, -1, 63, 46, 71, 47, 70, -2, 59, 49, 0, -3, 51, 54, 52, 53, -4, 57, 58, -5, 55, 56, -6, 65, -7, -8, 0, -9, -10, 67, 60, 78, -12, 68, 62, 73, -13, 82, 75, 64, 77, -14, 66, 0, -15, -16, -17, -18, 83, 69, 0, -19, -20, 87, 72, 89, -21, 88, 92, 74, 95, -22, 85, 76, 96, -23, -24, 97, 79, 101, 80, 81, -25, 98, 99, -26, 100, -27, -28, 105, -29, 106, 0, 86, -30, -31, -32, -33, -34, -35, 90, 91, -36, -37, -38, -39, 93, 94, -40, -41, -42, -43, -44, -45, -46, -47, -48, -49, -50, -51, -52, -53, -54, -55, 102, 0, 103, 104, -56, -57, -58, -59, -60, -61, -62, -63]
theorem tK14 : aFold 200 3 [(345, 56), (346, 57), (347, 58), (330, 59), (331, 60), (306, 61), (307, 62), (308, 63)] (rdO 104) (pdI tL13) = some (rdO 107, pdI tL14) := ckA2_ok (by decide +kernel)
set_option maxRecDepth 100000 in
theorem tB_rw1 : aFold 200 3 [(309, 0), (71, 1), (23, 2), (24, 3), (27, 4), (28, 5), (30, 6), (31, 7), (51, 8), (52, 9), (39, 10), (40, 11), (72, 12), (67, 13), (116, 14), (117, 15), (106, 16), (107, 17), (167, 18), (140, 19), (136, 20), (151, 21), (131, 22), (132, 23), (168, 24), (171, 25), (147, 26), (164, 27), (152, 28), (258, 29), (259, 30), (282, 31), (283, 32), (274, 33), (275, 34), (276, 35), (277, 36), (278, 37), (279, 38), (296, 39), (297, 40), (298, 41), (299, 42), (300, 43), (301, 44), (260, 45), (261, 46), (266, 47), (267, 48), (338, 49), (339, 50), (340, 51), (341, 52), (292, 53), (293, 54), (344, 55), (345, 56), (346, 57), (347, 58), (330, 59), (331, 60), (306, 61), (307, 62), (308, 63)] (rdO 38) (pdI tL6) = some (rdO 107, pdI tL14) := aFold_app _ _ _ _ _ _ tK7 (aFold_app _ _ _ _ _ _ tK8 (aFold_app _ _ _ _ _ _ tK9 (aFold_app _ _ _ _ _ _ tK10 (aFold_app _ _ _ _ _ _ tK11 (aFold_app _ _ _ _ _ _ tK12 (aFold_app _ _ _ _ _ _ tK13 (tK14)))))))
def tL15 : List Int := [5, -4, 13, -4, 27, 0, 38, 50, 0, 0, 6, 12, 7, -22, 8, -21, 9, 11, 21, 10, -1, -7, -2, -6, -3, -5, 14, 20, 15, -22, 16, -21, 17, 19, 0, 18, -1, -7, -2, -6, -3, -5, 22, 0, 23, 0, 24, 0, 25, 0, 26, 0, 0, -23, 28, 0, 29, 0, 30, 0, 31, 0, 32, 0, 33, 0, 34, 0, 35, 0, 36, 0, 37, 0, 0, -23, 39, 48, 45, 40, 61, 41, 42, -11, 84, 43, 44, 110, -64, -1, 63, 46, 71, 47, 70, -2, 59, 49, 107, -3, 51, 54, 52, 53, -4, 57, 58, -5, 55, 56, -6, 65, -7, -8, -129, -9, -10, 67, 60, 78, -12, 68, 62, 73, -13, 82, 75, 64, 77, -14, 66, -65, -15, -16, -17, -18, 83, 69, 0, -19, -20, 87, 72, 89, -21, 88, 92, 74, 95, -22, 85, 76, 96, -23, -24, 97, 79, 101, 80, 81, -25, 98, 99, -26, 100, -27, -28, 105, -29, 106, 0, 86, -30, -31, -32, -33, -34, -35, 90, 91, -36, -37, -38, -39, 93, 94, -40, -41, -42, -43, -44, -45, -46, -47, -48, -49, -50, -51, -52, -53, -54, -55, 102, -193, 103, 104, -56, -57, -58, -59, -60, -61, -62, -63, 111, 108, 0, 109, 0, -257, -321, -385, 0, 112, 113, 0, -449, -513]
theorem tK15 : aFold 200 3 [(59, 64), (50, 128), (87, 192), (183, 256), (310, 320), (311, 384), (356, 448), (357, 512)] (rdO 107) (pdI tL14) = some (rdO 114, pdI tL15) := ckA2_ok (by decide +kernel)
def tL16 : List Int := [5, -4, 13, -4, 27, 0, 38, 50, 0, 0, 6, 12, 7, -22, 8, -21, 9, 11, 21, 10, -1, -7, -2, -6, -3, -5, 14, 20, 15, -22, 16, -21, 17, 19, 0, 18, -1, -7, -2, -6, -3, -5, 22, 0, 23, 0, 24, 0, 25, 0, 26, 0, 0, -23, 28, 0, 29, 0, 30, 0, 31, 0, 32, 0, 33, 0, 34, 0, 35, 0, 36, 0, 37, 0, 0, -23, 39, 48, 45, 40, 61, 41, 42, -11, 84, 43, 44, 110, -64, -1, 63, 46, 71, 47, 70, -2, 59, 49, 107, -3, 51, 54, 52, 53, -4, 57, 58, -5, 55, 56, -6, 65, -7, -8, -129, -9, -10, 67, 60, 78, -12, 68, 62, 73, -13, 82, 75, 64, 77, -14, 66, -65, -15, -16, -17, -18, 83, 69, 0, -19, -20, 87, 72, 89, -21, 88, 92, 74, 95, -22, 85, 76, 96, -23, -24, 97, 79, 101, 80, 81, -25, 98, 99, -26, 100, -27, -28, 105, -29, 106, 0, 86, -30, -31, -32, -33, -34, -35, 90, 91, -36, -37, -38, -39, 93, 94, -40, -41, -42, -43, -44, -45, -46, -47, -48, -49, -50, -51, -52, -53, -54, -55, 102, -193, 103, 104, -56, -57, -58, -59, -60, -61, -62, -63, 111, 108, 114, 109, 0, -257, -321, -385, 0, 112, 113, 116, -449, -513, 115, 119, -577, 118, 117, -641, -705, -769, -833, -897, 120, 0, -961, -1025]
theorem tK16 : aFold 200 3 [(360, 576), (359, 640), (716, 704), (717, 768), (722, 832), (723, 896), (724, 960), (725, 1024)] (rdO 114) (pdI tL15) = some (rdO 121, pdI tL16) := ckA2_ok (by decide +kernel)
def tL17 : List Int := [5, -4, 13, -4, 27, 0, 38, 50, 0, 0, 6, 12, 7, -22, 8, -21, 9, 11, 21, 10, -1, -7, -2, -6, -3, -5, 14, 20, 15, -22, 16, -21, 17, 19, 0, 18, -1, -7, -2, -6, -3, -5, 22, 0, 23, 0, 24, 0, 25, 0, 26, 0, 0, -23, 28, 0, 29, 0, 30, 0, 31, 0, 32, 0, 33, 0, 34, 0, 35, 0, 36, 0, 37, 0, 0, -23, 39, 48, 45, 40, 61, 41, 42, -11, 84, 43, 44, 110, -64, -1, 63, 46, 71, 47, 70, -2, 59, 49, 107, -3, 51, 54, 52, 53, -4, 57, 58, -5, 55, 56, -6, 65, -7, -8, -129, -9, -10, 67, 60, 78, -12, 68, 62, 73, -13, 82, 75, 64, 77, -14, 66, -65, -15, -16, -17, -18, 83, 69, 125, -19, -20, 87, 72, 89, -21, 88, 92, 74, 95, -22, 85, 76, 96, -23, -24, 97, 79, 101, 80, 81, -25, 98, 99, -26, 100, -27, -28, 105, -29, 106, 0, 86, -30, -31, -32, -33, -34, -35, 90, 91, -36, -37, -38, -39, 93, 94, -40, -41, -42, -43, -44, -45, -46, -47, -48, -49, -50, -51, -52, -53, -54, -55, 102, -193, 103, 104, -56, -57, -58, -59, -60, -61, -62, -63, 111, 108, 114, 109, 122, -257, -321, -385, 0, 112, 113, 116, -449, -513, 115, 119, -577, 118, 117, -641, -705, -769, -833, -897, 120, 121, -961, -1025, -1089, -1153, 123, 124, -1217, -1281, -1345, -1409, 126, 0, -1473, -1537]
theorem tK17 : aFold 200 3 [(726, 1088), (727, 1152), (728, 1216), (729, 1280), (730, 1344), (731, 1408), (664, 1472), (665, 1536)] (rdO 121) (pdI tL16) = some (rdO 127, pdI tL17) := ckA2_ok (by decide +kernel)
def tL18 : List Int := [5, -4, 13, -4, 27, 0, 38, 50, 0, 0, 6, 12, 7, -22, 8, -21, 9, 11, 21, 10, -1, -7, -2, -6, -3, -5, 14, 20, 15, -22, 16, -21, 17, 19, 0, 18, -1, -7, -2, -6, -3, -5, 22, 0, 23, 0, 24, 0, 25, 0, 26, 0, 0, -23, 28, 0, 29, 0, 30, 0, 31, 0, 32, 0, 33, 0, 34, 0, 35, 0, 36, 0, 37, 0, 0, -23, 39, 48, 45, 40, 61, 41, 42, -11, 84, 43, 44, 110, -64, -1, 63, 46, 71, 47, 70, -2, 59, 49, 107, -3, 51, 54, 52, 53, -4, 57, 58, -5, 55, 56, -6, 65, -7, -8, -129, -9, -10, 67, 60, 78, -12, 68, 62, 73, -13, 82, 75, 64, 77, -14, 66, -65, -15, -16, -17, -18, 83, 69, 125, -19, -20, 87, 72, 89, -21, 88, 92, 74, 95, -22, 85, 76, 96, -23, -24, 97, 79, 101, 80, 81, -25, 98, 99, -26, 100, -27, -28, 105, -29, 106, 0, 86, -30, -31, -32, -33, -34, -35, 90, 91, -36, -37, -38, -39, 93, 94, -40, -41, -42, -43, -44, -45, -46, -47, -48, -49, -50, -51, -52, -53, -54, -55, 102, -193, 103, 104, -56, -57, -58, -59, -60, -61, -62, -63, 111, 108, 114, 109, 122, -257, -321, -385, -1665, 112, 113, 116, -449, -513, 115, 119, -577, 118, 117, -641, -705, -769, -833, -897, 120, 121, -961, -1025, -1089, -1153, 123, 124, -1217, -1281, -1345, -1409, 126, 127, -1473, -1537, -1601, -1729]
theorem tK18 : aFold 200 3 [(666, 1600), (88, 1664), (667, 1728)] (rdO 127) (pdI tL17) = some (rdO 128, pdI tL18) := ckA2_ok (by decide +kernel)
set_option maxRecDepth 100000 in
theorem tB_rw2 : aFold 200 3 [(59, 64), (50, 128), (87, 192), (183, 256), (310, 320), (311, 384), (356, 448), (357, 512), (360, 576), (359, 640), (716, 704), (717, 768), (722, 832), (723, 896), (724, 960), (725, 1024), (726, 1088), (727, 1152), (728, 1216), (729, 1280), (730, 1344), (731, 1408), (664, 1472), (665, 1536), (666, 1600), (88, 1664), (667, 1728)] (rdO 107) (pdI tL14) = some (rdO 128, pdI tL18) := aFold_app _ _ _ _ _ _ tK15 (aFold_app _ _ _ _ _ _ tK16 (aFold_app _ _ _ _ _ _ tK17 (tK18)))
def tL19 : List Int := [5, -4, 13, -4, 27, 0, 38, 50, 0, 0, 6, 12, 7, -22, 8, -21, 9, 11, 21, 10, -1, -7, -2, -6, -3, -5, 14, 20, 15, -22, 16, -21, 17, 19, 0, 18, -1, -7, -2, -6, -3, -5, 22, 0, 23, 0, 24, 0, 25, 0, 26, 0, 0, -23, 28, 0, 29, 0, 30, 0, 31, 0, 32, 0, 33, 0, 34, 0, 35, 0, 36, 0, 37, 0, 0, -23, 39, 48, 45, 40, 61, 41, 42, -11, 84, 43, 44, 110, -64, -1, 63, 46, 71, 47, 70, -2, 59, 49, 107, -3, 51, 54, 52, 53, -4, 57, 58, -5, 55, 56, -6, 65, -7, -8, -129, -9, -10, 67, 60, 78, -12, 68, 62, 73, -13, 82, 75, 64, 77, -14, 66, -65, -15, -16, -17, -18, 83, 69, 125, -19, -20, 87, 72, 89, -21, 88, 92, 74, 95, -22, 85, 76, 96, -23, -24, 97, 79, 101, 80, 81, -25, 98, 99, -26, 100, -27, -28, 105, -29, 106, 128, 86, -30, -31, -32, -33, -34, -35, 90, 91, -36, -37, -38, -39, 93, 94, -40, -41, -42, -43, -44, -45, -46, -47, -48, -49, -50, -51, -52, -53, -54, -55, 102, -193, 103, 104, -56, -57, -58, -59, -60, -61, -62, -63, 111, 108, 114, 109, 122, -257, -321, -385, -1665, 112, 113, 116, -449, -513, 115, 119, -577, 118, 117, -641, -705, -769, -833, -897, 120, 121, -961, -1025, -1089, -1153, 123, 124, -1217, -1281, -1345, -1409, 126, 127, -1473, -1537, -1601, -1729, 0, 129, 130, 132, 131, 135, -1793, 134, 133, 0, -1857, -1921, -1985, -2049, 136, 137, -2113, -2177, -2241]
theorem tK19 : aFold 200 3 [(2056, 1792), (2060, 1856), (2061, 1920), (4114, 1984), (4115, 2048), (4116, 2112), (4117, 2176), (4118, 2240)] (rdO 128) (pdI tL18) = some (rdO 138, pdI tL19) := ckA2_ok (by decide +kernel)
def tL20 : List Int := [5, -4, 13, -4, 27, 0, 38, 50, 0, 0, 6, 12, 7, -22, 8, -21, 9, 11, 21, 10, -1, -7, -2, -6, -3, -5, 14, 20, 15, -22, 16, -21, 17, 19, 0, 18, -1, -7, -2, -6, -3, -5, 22, 0, 23, 0, 24, 0, 25, 0, 26, 0, 0, -23, 28, 0, 29, 0, 30, 0, 31, 0, 32, 0, 33, 0, 34, 0, 35, 0, 36, 0, 37, 0, 0, -23, 39, 48, 45, 40, 61, 41, 42, -11, 84, 43, 44, 110, -64, -1, 63, 46, 71, 47, 70, -2, 59, 49, 107, -3, 51, 54, 52, 53, -4, 57, 58, -5, 55, 56, -6, 65, -7, -8, -129, -9, -10, 67, 60, 78, -12, 68, 62, 73, -13, 82, 75, 64, 77, -14, 66, -65, -15, -16, -17, -18, 83, 69, 125, -19, -20, 87, 72, 89, -21, 88, 92, 74, 95, -22, 85, 76, 96, -23, -24, 97, 79, 101, 80, 81, -25, 98, 99, -26, 100, -27, -28, 105, -29, 106, 128, 86, -30, -31, -32, -33, -34, -35, 90, 91, -36, -37, -38, -39, 93, 94, -40, -41, -42, -43, -44, -45, -46, -47, -48, -49, -50, -51, -52, -53, -54, -55, 102, -193, 103, 104, -56, -57, -58, -59, -60, -61, -62, -63, 111, 108, 114, 109, 122, -257, -321, -385, -1665, 112, 113, 116, -449, -513, 115, 119, -577, 118, 117, -641, -705, -769, -833, -897, 120, 121, -961, -1025, -1089, -1153, 123, 124, -1217, -1281, -1345, -1409, 126, 127, -1473, -1537, -1601, -1729, 0, 129, 130, 132, 131, 135, -1793, 134, 133, 138, -1857, -1921, -1985, -2049, 136, 137, -2113, -2177, -2241, -2305, 139, 140, -2369, -2433, -2497, -2561]
theorem tK20 : aFold 200 3 [(4119, 2304), (4124, 2368), (4125, 2432), (4126, 2496), (4127, 2560)] (rdO 138) (pdI tL19) = some (rdO 141, pdI tL20) := ckA2_ok (by decide +kernel)
set_option maxRecDepth 100000 in
theorem tB_rw3 : aFold 200 3 [(2056, 1792), (2060, 1856), (2061, 1920), (4114, 1984), (4115, 2048), (4116, 2112), (4117, 2176), (4118, 2240), (4119, 2304), (4124, 2368), (4125, 2432), (4126, 2496), (4127, 2560)] (rdO 128) (pdI tL18) = some (rdO 141, pdI tL20) := aFold_app _ _ _ _ _ _ tK19 (tK20)
def tL21 : List Int := [5, -4, 13, -4, 27, 0, 38, 50, 141, 151, 6, 12, 7, -22, 8, -21, 9, 11, 21, 10, -1, -7, -2, -6, -3, -5, 14, 20, 15, -22, 16, -21, 17, 19, 0, 18, -1, -7, -2, -6, -3, -5, 22, 0, 23, 0, 24, 0, 25, 0, 26, 0, 0, -23, 28, 0, 29, 0, 30, 0, 31, 0, 32, 0, 33, 0, 34, 0, 35, 0, 36, 0, 37, 0, 0, -23, 39, 48, 45, 40, 61, 41, 42, -11, 84, 43, 44, 110, -64, -1, 63, 46, 71, 47, 70, -2, 59, 49, 107, -3, 51, 54, 52, 53, -4, 57, 58, -5, 55, 56, -6, 65, -7, -8, -129, -9, -10, 67, 60, 78, -12, 68, 62, 73, -13, 82, 75, 64, 77, -14, 66, -65, -15, -16, -17, -18, 83, 69, 125, -19, -20, 87, 72, 89, -21, 88, 92, 74, 95, -22, 85, 76, 96, -23, -24, 97, 79, 101, 80, 81, -25, 98, 99, -26, 100, -27, -28, 105, -29, 106, 128, 86, -30, -31, -32, -33, -34, -35, 90, 91, -36, -37, -38, -39, 93, 94, -40, -41, -42, -43, -44, -45, -46, -47, -48, -49, -50, -51, -52, -53, -54, -55, 102, -193, 103, 104, -56, -57, -58, -59, -60, -61, -62, -63, 111, 108, 114, 109, 122, -257, -321, -385, -1665, 112, 113, 116, -449, -513, 115, 119, -577, 118, 117, -641, -705, -769, -833, -897, 120, 121, -961, -1025, -1089, -1153, 123, 124, -1217, -1281, -1345, -1409, 126, 127, -1473, -1537, -1601, -1729, 0, 129, 130, 132, 131, 135, -1793, 134, 133, 138, -1857, -1921, -1985, -2049, 136, 137, -2113, -2177, -2241, -2305, 139, 140, -2369, -2433, -2497, -2561, 142, 150, 143, 152, 144, 153, 0, 145, 0, 146, 147, 0, 0, 148, 0, 149, 0, -1, -2, -5, -4, -3, -7, -6, 0, -8]
theorem tK21 : aFold 200 4 [(1079, 0), (10, 1), (7, 2), (6, 3), (11, 4), (19, 5), (18, 6), (35, 7)] (rdO 141) (pdI tL20) = some (rdO 154, pdI tL21) := ckA2_ok (by decide +kernel)
def tL22 : List Int := [5, -4, 13, -4, 27, 0, 38, 50, 141, 151, 6, 12, 7, -22, 8, -21, 9, 11, 21, 10, -1, -7, -2, -6, -3, -5, 14, 20, 15, -22, 16, -21, 17, 19, 0, 18, -1, -7, -2, -6, -3, -5, 22, 0, 23, 0, 24, 0, 25, 0, 26, 0, 0, -23, 28, 0, 29, 0, 30, 0, 31, 0, 32, 0, 33, 0, 34, 0, 35, 0, 36, 0, 37, 0, 0, -23, 39, 48, 45, 40, 61, 41, 42, -11, 84, 43, 44, 110, -64, -1, 63, 46, 71, 47, 70, -2, 59, 49, 107, -3, 51, 54, 52, 53, -4, 57, 58, -5, 55, 56, -6, 65, -7, -8, -129, -9, -10, 67, 60, 78, -12, 68, 62, 73, -13, 82, 75, 64, 77, -14, 66, -65, -15, -16, -17, -18, 83, 69, 125, -19, -20, 87, 72, 89, -21, 88, 92, 74, 95, -22, 85, 76, 96, -23, -24, 97, 79, 101, 80, 81, -25, 98, 99, -26, 100, -27, -28, 105, -29, 106, 128, 86, -30, -31, -32, -33, -34, -35, 90, 91, -36, -37, -38, -39, 93, 94, -40, -41, -42, -43, -44, -45, -46, -47, -48, -49, -50, -51, -52, -53, -54, -55, 102, -193, 103, 104, -56, -57, -58, -59, -60, -61, -62, -63, 111, 108, 114, 109, 122, -257, -321, -385, -1665, 112, 113, 116, -449, -513, 115, 119, -577, 118, 117, -641, -705, -769, -833, -897, 120, 121, -961, -1025, -1089, -1153, 123, 124, -1217, -1281, -1345, -1409, 126, 127, -1473, -1537, -1601, -1729, 0, 129, 130, 132, 131, 135, -1793, 134, 133, 138, -1857, -1921, -1985, -2049, 136, 137, -2113, -2177, -2241, -2305, 139, 140, -2369, -2433, -2497, -2561, 142, 150, 143, 152, 144, 153, 156, 145, 155, 146, 147, -13, 160, 148, 0, 149, 0, -1, -2, -5, -4, -3, -7, -6, 154, -8, -10, -9, -11, -12, 0, 157, 158, 159, -14, 0, 0, -15, -16]
theorem tK22 : aFold 200 4 [(69, 8), (68, 9), (132, 10), (133, 11), (135, 12), (260, 13), (263, 14), (536, 15)] (rdO 154) (pdI tL21) = some (rdO 161, pdI tL22) := ckA2_ok (by decide +kernel)
def tL23 : List Int := [5, -4, 13, -4, 27, 0, 38, 50, 141, 151, 6, 12, 7, -22, 8, -21, 9, 11, 21, 10, -1, -7, -2, -6, -3, -5, 14, 20, 15, -22, 16, -21, 17, 19, 0, 18, -1, -7, -2, -6, -3, -5, 22, 0, 23, 0, 24, 0, 25, 0, 26, 0, 0, -23, 28, 0, 29, 0, 30, 0, 31, 0, 32, 0, 33, 0, 34, 0, 35, 0, 36, 0, 37, 0, 0, -23, 39, 48, 45, 40, 61, 41, 42, -11, 84, 43, 44, 110, -64, -1, 63, 46, 71, 47, 70, -2, 59, 49, 107, -3, 51, 54, 52, 53, -4, 57, 58, -5, 55, 56, -6, 65, -7, -8, -129, -9, -10, 67, 60, 78, -12, 68, 62, 73, -13, 82, 75, 64, 77, -14, 66, -65, -15, -16, -17, -18, 83, 69, 125, -19, -20, 87, 72, 89, -21, 88, 92, 74, 95, -22, 85, 76, 96, -23, -24, 97, 79, 101, 80, 81, -25, 98, 99, -26, 100, -27, -28, 105, -29, 106, 128, 86, -30, -31, -32, -33, -34, -35, 90, 91, -36, -37, -38, -39, 93, 94, -40, -41, -42, -43, -44, -45, -46, -47, -48, -49, -50, -51, -52, -53, -54, -55, 102, -193, 103, 104, -56, -57, -58, -59, -60, -61, -62, -63, 111, 108, 114, 109, 122, -257, -321, -385, -1665, 112, 113, 116, -449, -513, 115, 119, -577, 118, 117, -641, -705, -769, -833, -897, 120, 121, -961, -1025, -1089, -1153, 123, 124, -1217, -1281, -1345, -1409, 126, 127, -1473, -1537, -1601, -1729, 0, 129, 130, 132, 131, 135, -1793, 134, 133, 138, -1857, -1921, -1985, -2049, 136, 137, -2113, -2177, -2241, -2305, 139, 140, -2369, -2433, -2497, -2561, 142, 150, 143, 152, 144, 153, 156, 145, 155, 146, 147, -13, 160, 148, 171, 149, 173, -1, -2, -5, -4, -3, -7, -6, 154, -8, -10, -9, -11, -12, 165, 157, 158, 159, -14, 161, 163, -15, -16, 169, 176, 162, 0, -17, 164, 174, -18, 0, 0, 166, 167, 0, 168, 0, -19, 0, 0, 170, 0, -20, 172, 0, -21, 0, -22, 0, 0, 175, 0, -23, 177, 0, -24]
theorem tK23 : aFold 200 4 [(1047, 16), (1048, 17), (1032, 18), (2151, 19), (2152, 20), (2156, 21), (2103, 22), (2088, 23)] (rdO 161) (pdI tL22) = some (rdO 178, pdI tL23) := ckA2_ok (by decide +kernel)
def tL24 : List Int := [5, -4, 13, -4, 27, 0, 38, 50, 141, 151, 6, 12, 7, -22, 8, -21, 9, 11, 21, 10, -1, -7, -2, -6, -3, -5, 14, 20, 15, -22, 16, -21, 17, 19, 0, 18, -1, -7, -2, -6, -3, -5, 22, 0, 23, 0, 24, 0, 25, 0, 26, 0, 0, -23, 28, 0, 29, 0, 30, 0, 31, 0, 32, 0, 33, 0, 34, 0, 35, 0, 36, 0, 37, 0, 0, -23, 39, 48, 45, 40, 61, 41, 42, -11, 84, 43, 44, 110, -64, -1, 63, 46, 71, 47, 70, -2, 59, 49, 107, -3, 51, 54, 52, 53, -4, 57, 58, -5, 55, 56, -6, 65, -7, -8, -129, -9, -10, 67, 60, 78, -12, 68, 62, 73, -13, 82, 75, 64, 77, -14, 66, -65, -15, -16, -17, -18, 83, 69, 125, -19, -20, 87, 72, 89, -21, 88, 92, 74, 95, -22, 85, 76, 96, -23, -24, 97, 79, 101, 80, 81, -25, 98, 99, -26, 100, -27, -28, 105, -29, 106, 128, 86, -30, -31, -32, -33, -34, -35, 90, 91, -36, -37, -38, -39, 93, 94, -40, -41, -42, -43, -44, -45, -46, -47, -48, -49, -50, -51, -52, -53, -54, -55, 102, -193, 103, 104, -56, -57, -58, -59, -60, -61, -62, -63, 111, 108, 114, 109, 122, -257, -321, -385, -1665, 112, 113, 116, -449, -513, 115, 119, -577, 118, 117, -641, -705, -769, -833, -897, 120, 121, -961, -1025, -1089, -1153, 123, 124, -1217, -1281, -1345, -1409, 126, 127, -1473, -1537, -1601, -1729, 0, 129, 130, 132, 131, 135, -1793, 134, 133, 138, -1857, -1921, -1985, -2049, 136, 137, -2113, -2177, -2241, -2305, 139, 140, -2369, -2433, -2497, -2561, 142, 150, 143, 152, 144, 153, 156, 145, 155, 146, 147, -13, 160, 148, 171, 149, 173, -1, -2, -5, -4, -3, -7, -6, 154, -8, -10, -9, -11, -12, 165, 157, 158, 159, -14, 161, 163, -15, -16, 169, 176, 162, 0, -17, 164, 174, -18, 0, 0, 166, 167, 180, 168, 178, -19, 0, 183, 170, 185, -20, 172, 0, -21, 0, -22, 0, 186, 175, 0, -23, 177, 0, -24, 0, 0, 179, 0, -25, 181, 0, 182, 0, -26, 0, 0, 184, -27, -28, -29, -30, 187, 0, -31, -32]
theorem tK24 : aFold 200 4 [(2071, 24), (2072, 25), (4298, 26), (4299, 27), (4300, 28), (4301, 29), (4200, 30), (4201, 31)] (rdO 178) (pdI tL23) = some (rdO 188, pdI tL24) := ckA2_ok (by decide +kernel)
def tL25 : List Int := [5, -4, 13, -4, 27, 0, 38, 50, 141, 151, 6, 12, 7, -22, 8, -21, 9, 11, 21, 10, -1, -7, -2, -6, -3, -5, 14, 20, 15, -22, 16, -21, 17, 19, 0, 18, -1, -7, -2, -6, -3, -5, 22, 0, 23, 0, 24, 0, 25, 0, 26, 0, 0, -23, 28, 0, 29, 0, 30, 0, 31, 0, 32, 0, 33, 0, 34, 0, 35, 0, 36, 0, 37, 0, 0, -23, 39, 48, 45, 40, 61, 41, 42, -11, 84, 43, 44, 110, -64, -1, 63, 46, 71, 47, 70, -2, 59, 49, 107, -3, 51, 54, 52, 53, -4, 57, 58, -5, 55, 56, -6, 65, -7, -8, -129, -9, -10, 67, 60, 78, -12, 68, 62, 73, -13, 82, 75, 64, 77, -14, 66, -65, -15, -16, -17, -18, 83, 69, 125, -19, -20, 87, 72, 89, -21, 88, 92, 74, 95, -22, 85, 76, 96, -23, -24, 97, 79, 101, 80, 81, -25, 98, 99, -26, 100, -27, -28, 105, -29, 106, 128, 86, -30, -31, -32, -33, -34, -35, 90, 91, -36, -37, -38, -39, 93, 94, -40, -41, -42, -43, -44, -45, -46, -47, -48, -49, -50, -51, -52, -53, -54, -55, 102, -193, 103, 104, -56, -57, -58, -59, -60, -61, -62, -63, 111, 108, 114, 109, 122, -257, -321, -385, -1665, 112, 113, 116, -449, -513, 115, 119, -577, 118, 117, -641, -705, -769, -833, -897, 120, 121, -961, -1025, -1089, -1153, 123, 124, -1217, -1281, -1345, -1409, 126, 127, -1473, -1537, -1601, -1729, 0, 129, 130, 132, 131, 135, -1793, 134, 133, 138, -1857, -1921, -1985, -2049, 136, 137, -2113, -2177, -2241, -2305, 139, 140, -2369, -2433, -2497, -2561, 142, 150, 143, 152, 144, 153, 156, 145, 155, 146, 147, -13, 160, 148, 171, 149, 173, -1, -2, -5, -4, -3, -7, -6, 154, -8, -10, -9, -11, -12, 165, 157, 158, 159, -14, 161, 163, -15, -16, 169, 176, 162, 0, -17, 164, 174, -18, 0, 0, 166, 167, 180, 168, 178, -19, 0, 183, 170, 185, -20, 172, 190, -21, 189, -22, 0, 186, 175, 0, -23, 177, 0, -24, 0, 0, 179, 0, -25, 181, 0, 182, 0, -26, 0, 0, 184, -27, -28, -29, -30, 187, 188, -31, -32, -33, -34, -35, -36, 191, 192, -37, -38, -39, -40]
theorem tK25 : aFold 200 4 [(4202, 32), (4203, 33), (4306, 34), (4307, 35), (4308, 36), (4309, 37), (4310, 38), (4311, 39)] (rdO 188) (pdI tL24) = some (rdO 193, pdI tL25) := ckA2_ok (by decide +kernel)
def tL26 : List Int := [5, -4, 13, -4, 27, 0, 38, 50, 141, 151, 6, 12, 7, -22, 8, -21, 9, 11, 21, 10, -1, -7, -2, -6, -3, -5, 14, 20, 15, -22, 16, -21, 17, 19, 0, 18, -1, -7, -2, -6, -3, -5, 22, 0, 23, 0, 24, 0, 25, 0, 26, 0, 0, -23, 28, 0, 29, 0, 30, 0, 31, 0, 32, 0, 33, 0, 34, 0, 35, 0, 36, 0, 37, 0, 0, -23, 39, 48, 45, 40, 61, 41, 42, -11, 84, 43, 44, 110, -64, -1, 63, 46, 71, 47, 70, -2, 59, 49, 107, -3, 51, 54, 52, 53, -4, 57, 58, -5, 55, 56, -6, 65, -7, -8, -129, -9, -10, 67, 60, 78, -12, 68, 62, 73, -13, 82, 75, 64, 77, -14, 66, -65, -15, -16, -17, -18, 83, 69, 125, -19, -20, 87, 72, 89, -21, 88, 92, 74, 95, -22, 85, 76, 96, -23, -24, 97, 79, 101, 80, 81, -25, 98, 99, -26, 100, -27, -28, 105, -29, 106, 128, 86, -30, -31, -32, -33, -34, -35, 90, 91, -36, -37, -38, -39, 93, 94, -40, -41, -42, -43, -44, -45, -46, -47, -48, -49, -50, -51, -52, -53, -54, -55, 102, -193, 103, 104, -56, -57, -58, -59, -60, -61, -62, -63, 111, 108, 114, 109, 122, -257, -321, -385, -1665, 112, 113, 116, -449, -513, 115, 119, -577, 118, 117, -641, -705, -769, -833, -897, 120, 121, -961, -1025, -1089, -1153, 123, 124, -1217, -1281, -1345, -1409, 126, 127, -1473, -1537, -1601, -1729, 0, 129, 130, 132, 131, 135, -1793, 134, 133, 138, -1857, -1921, -1985, -2049, 136, 137, -2113, -2177, -2241, -2305, 139, 140, -2369, -2433, -2497, -2561, 142, 150, 143, 152, 144, 153, 156, 145, 155, 146, 147, -13, 160, 148, 171, 149, 173, -1, -2, -5, -4, -3, -7, -6, 154, -8, -10, -9, -11, -12, 165, 157, 158, 159, -14, 161, 163, -15, -16, 169, 176, 162, 0, -17, 164, 174, -18, 0, 0, 166, 167, 180, 168, 178, -19, 0, 183, 170, 185, -20, 172, 190, -21, 189, -22, 194, 186, 175, 193, -23, 177, 195, -24, 0, 0, 179, 0, -25, 181, 0, 182, 0, -26, 0, 0, 184, -27, -28, -29, -30, 187, 188, -31, -32, -33, -34, -35, -36, 191, 192, -37, -38, -39, -40, -41, -42, -43, -44, 196, 197, -45, -46, -47, -48]
theorem tK26 : aFold 200 4 [(4204, 40), (4205, 41), (4314, 42), (4315, 43), (4180, 44), (4181, 45), (4182, 46), (4183, 47)] (rdO 193) (pdI tL25) = some (rdO 198, pdI tL26) := ckA2_ok (by decide +kernel)
def tL27 : List Int := [5, -4, 13, -4, 27, 0, 38, 50, 141, 151, 6, 12, 7, -22, 8, -21, 9, 11, 21, 10, -1, -7, -2, -6, -3, -5, 14, 20, 15, -22, 16, -21, 17, 19, 0, 18, -1, -7, -2, -6, -3, -5, 22, 0, 23, 0, 24, 0, 25, 0, 26, 0, 0, -23, 28, 0, 29, 0, 30, 0, 31, 0, 32, 0, 33, 0, 34, 0, 35, 0, 36, 0, 37, 0, 0, -23, 39, 48, 45, 40, 61, 41, 42, -11, 84, 43, 44, 110, -64, -1, 63, 46, 71, 47, 70, -2, 59, 49, 107, -3, 51, 54, 52, 53, -4, 57, 58, -5, 55, 56, -6, 65, -7, -8, -129, -9, -10, 67, 60, 78, -12, 68, 62, 73, -13, 82, 75, 64, 77, -14, 66, -65, -15, -16, -17, -18, 83, 69, 125, -19, -20, 87, 72, 89, -21, 88, 92, 74, 95, -22, 85, 76, 96, -23, -24, 97, 79, 101, 80, 81, -25, 98, 99, -26, 100, -27, -28, 105, -29, 106, 128, 86, -30, -31, -32, -33, -34, -35, 90, 91, -36, -37, -38, -39, 93, 94, -40, -41, -42, -43, -44, -45, -46, -47, -48, -49, -50, -51, -52, -53, -54, -55, 102, -193, 103, 104, -56, -57, -58, -59, -60, -61, -62, -63, 111, 108, 114, 109, 122, -257, -321, -385, -1665, 112, 113, 116, -449, -513, 115, 119, -577, 118, 117, -641, -705, -769, -833, -897, 120, 121, -961, -1025, -1089, -1153, 123, 124, -1217, -1281, -1345, -1409, 126, 127, -1473, -1537, -1601, -1729, 0, 129, 130, 132, 131, 135, -1793, 134, 133, 138, -1857, -1921, -1985, -2049, 136, 137, -2113, -2177, -2241, -2305, 139, 140, -2369, -2433, -2497, -2561, 142, 150, 143, 152, 144, 153, 156, 145, 155, 146, 147, -13, 160, 148, 171, 149, 173, -1, -2, -5, -4, -3, -7, -6, 154, -8, -10, -9, -11, -12, 165, 157, 158, 159, -14, 161, 163, -15, -16, 169, 176, 162, 0, -17, 164, 174, -18, 198, 0, 166, 167, 180, 168, 178, -19, 201, 183, 170, 185, -20, 172, 190, -21, 189, -22, 194, 186, 175, 193, -23, 177, 195, -24, 200, 0, 179, 0, -25, 181, 205, 182, 203, -26, 0, 0, 184, -27, -28, -29, -30, 187, 188, -31, -32, -33, -34, -35, -36, 191, 192, -37, -38, -39, -40, -41, -42, -43, -44, 196, 197, -45, -46, -47, -48, 199, 0, -49, -50, -51, -52, 202, 208, -53, 0, 0, 204, 0, -54, 206, 0, 207, 0, -55, 0, 0, -56]
theorem tK27 : aFold 200 4 [(4196, 48), (4197, 49), (4178, 50), (4179, 51), (4132, 52), (4151, 53), (4152, 54), (4135, 55)] (rdO 198) (pdI tL26) = some (rdO 209, pdI tL27) := ckA2_ok (by decide +kernel)
def tL28 : List Int := [5, -4, 13, -4, 27, 0, 38, 50, 141, 151, 6, 12, 7, -22, 8, -21, 9, 11, 21, 10, -1, -7, -2, -6, -3, -5, 14, 20, 15, -22, 16, -21, 17, 19, 0, 18, -1, -7, -2, -6, -3, -5, 22, 0, 23, 0, 24, 0, 25, 0, 26, 0, 0, -23, 28, 0, 29, 0, 30, 0, 31, 0, 32, 0, 33, 0, 34, 0, 35, 0, 36, 0, 37, 0, 0, -23, 39, 48, 45, 40, 61, 41, 42, -11, 84, 43, 44, 110, -64, -1, 63, 46, 71, 47, 70, -2, 59, 49, 107, -3, 51, 54, 52, 53, -4, 57, 58, -5, 55, 56, -6, 65, -7, -8, -129, -9, -10, 67, 60, 78, -12, 68, 62, 73, -13, 82, 75, 64, 77, -14, 66, -65, -15, -16, -17, -18, 83, 69, 125, -19, -20, 87, 72, 89, -21, 88, 92, 74, 95, -22, 85, 76, 96, -23, -24, 97, 79, 101, 80, 81, -25, 98, 99, -26, 100, -27, -28, 105, -29, 106, 128, 86, -30, -31, -32, -33, -34, -35, 90, 91, -36, -37, -38, -39, 93, 94, -40, -41, -42, -43, -44, -45, -46, -47, -48, -49, -50, -51, -52, -53, -54, -55, 102, -193, 103, 104, -56, -57, -58, -59, -60, -61, -62, -63, 111, 108, 114, 109, 122, -257, -321, -385, -1665, 112, 113, 116, -449, -513, 115, 119, -577, 118, 117, -641, -705, -769, -833, -897, 120, 121, -961, -1025, -1089, -1153, 123, 124, -1217, -1281, -1345, -1409, 126, 127, -1473, -1537, -1601, -1729, 0, 129, 130, 132, 131, 135, -1793, 134, 133, 138, -1857, -1921, -1985, -2049, 136, 137, -2113, -2177, -2241, -2305, 139, 140, -2369, -2433, -2497, -2561, 142, 150, 143, 152, 144, 153, 156, 145, 155, 146, 147, -13, 160, 148, 171, 149, 173, -1, -2, -5, -4, -3, -7, -6, 154, -8, -10, -9, -11, -12, 165, 157, 158, 159, -14, 161, 163, -15, -16, 169, 176, 162, 211, -17, 164, 174, -18, 198, 0, 166, 167, 180, 168, 178, -19, 201, 183, 170, 185, -20, 172, 190, -21, 189, -22, 194, 186, 175, 193, -23, 177, 195, -24, 200, 209, 179, 214, -25, 181, 205, 182, 203, -26, 0, 0, 184, -27, -28, -29, -30, 187, 188, -31, -32, -33, -34, -35, -36, 191, 192, -37, -38, -39, -40, -41, -42, -43, -44, 196, 197, -45, -46, -47, -48, 199, 216, -49, -50, -51, -52, 202, 208, -53, 0, 0, 204, 0, -54, 206, 0, 207, 0, -55, 0, 0, -56, 210, 213, -57, 0, 212, 215, -58, -59, 0, -60, -61, 0, -62, 0, -63, -64]
theorem tK28 : aFold 200 4 [(4136, 56), (4184, 57), (4185, 58), (4139, 59), (4140, 60), (4186, 61), (4198, 62), (4199, 63)] (rdO 209) (pdI tL27) = some (rdO 217, pdI tL28) := ckA2_ok (by decide +kernel)
set_option maxRecDepth 100000 in
theorem tB_rb1 : aFold 200 4 [(1079, 0), (10, 1), (7, 2), (6, 3), (11, 4), (19, 5), (18, 6), (35, 7), (69, 8), (68, 9), (132, 10), (133, 11), (135, 12), (260, 13), (263, 14), (536, 15), (1047, 16), (1048, 17), (1032, 18), (2151, 19), (2152, 20), (2156, 21), (2103, 22), (2088, 23), (2071, 24), (2072, 25), (4298, 26), (4299, 27), (4300, 28), (4301, 29), (4200, 30), (4201, 31), (4202, 32), (4203, 33), (4306, 34), (4307, 35), (4308, 36), (4309, 37), (4310, 38), (4311, 39), (4204, 40), (4205, 41), (4314, 42), (4315, 43), (4180, 44), (4181, 45), (4182, 46), (4183, 47), (4196, 48), (4197, 49), (4178, 50), (4179, 51), (4132, 52), (4151, 53), (4152, 54), (4135, 55), (4136, 56), (4184, 57), (4185, 58), (4139, 59), (4140, 60), (4186, 61), (4198, 62), (4199, 63)] (rdO 141) (pdI tL20) = some (rdO 217, pdI tL28) := aFold_app _ _ _ _ _ _ tK21 (aFold_app _ _ _ _ _ _ tK22 (aFold_app _ _ _ _ _ _ tK23 (aFold_app _ _ _ _ _ _ tK24 (aFold_app _ _ _ _ _ _ tK25 (aFold_app _ _ _ _ _ _ tK26 (aFold_app _ _ _ _ _ _ tK27 (tK28)))))))
def tL29 : List Int := [5, -4, 13, -4, 27, 0, 38, 50, 141, 151, 6, 12, 7, -22, 8, -21, 9, 11, 21, 10, -1, -7, -2, -6, -3, -5, 14, 20, 15, -22, 16, -21, 17, 19, 0, 18, -1, -7, -2, -6, -3, -5, 22, 0, 23, 0, 24, 0, 25, 0, 26, 0, 0, -23, 28, 0, 29, 0, 30, 0, 31, 0, 32, 0, 33, 0, 34, 0, 35, 0, 36, 0, 37, 0, 0, -23, 39, 48, 45, 40, 61, 41, 42, -11, 84, 43, 44, 110, -64, -1, 63, 46, 71, 47, 70, -2, 59, 49, 107, -3, 51, 54, 52, 53, -4, 57, 58, -5, 55, 56, -6, 65, -7, -8, -129, -9, -10, 67, 60, 78, -12, 68, 62, 73, -13, 82, 75, 64, 77, -14, 66, -65, -15, -16, -17, -18, 83, 69, 125, -19, -20, 87, 72, 89, -21, 88, 92, 74, 95, -22, 85, 76, 96, -23, -24, 97, 79, 101, 80, 81, -25, 98, 99, -26, 100, -27, -28, 105, -29, 106, 128, 86, -30, -31, -32, -33, -34, -35, 90, 91, -36, -37, -38, -39, 93, 94, -40, -41, -42, -43, -44, -45, -46, -47, -48, -49, -50, -51, -52, -53, -54, -55, 102, -193, 103, 104, -56, -57, -58, -59, -60, -61, -62, -63, 111, 108, 114, 109, 122, -257, -321, -385, -1665, 112, 113, 116, -449, -513, 115, 119, -577, 118, 117, -641, -705, -769, -833, -897, 120, 121, -961, -1025, -1089, -1153, 123, 124, -1217, -1281, -1345, -1409, 126, 127, -1473, -1537, -1601, -1729, 0, 129, 130, 132, 131, 135, -1793, 134, 133, 138, -1857, -1921, -1985, -2049, 136, 137, -2113, -2177, -2241, -2305, 139, 140, -2369, -2433, -2497, -2561, 142, 150, 143, 152, 144, 153, 156, 145, 155, 146, 147, -13, 160, 148, 171, 149, 173, -1, -2, -5, -4, -3, -7, -6, 154, -8, -10, -9, -11, -12, 165, 157, 158, 159, -14, 161, 163, -15, -16, 169, 176, 162, 211, -17, 164, 174, -18, 198, 0, 166, 167, 180, 168, 178, -19, 201, 183, 170, 185, -20, 172, 190, -21, 189, -22, 194, 186, 175, 193, -23, 177, 195, -24, 200, 209, 179, 214, -25, 181, 205, 182, 203, -26, 218, 217, 184, -27, -28, -29, -30, 187, 188, -31, -32, -33, -34, -35, -36, 191, 192, -37, -38, -39, -40, -41, -42, -43, -44, 196, 197, -45, -46, -47, -48, 199, 216, -49, -50, -51, -52, 202, 208, -53, 0, 219, 204, 220, -54, 206, -65, 207, 0, -55, 0, 0, -56, 210, 213, -57, 0, 212, 215, -58, -59, 0, -60, -61, 0, -62, -257, -63, -64, -129, -193, 0, -321, -385, -449, -513]
theorem tK29 : aFold 200 4 [(1039, 64), (4296, 128), (4297, 192), (4187, 256), (4147, 320), (4148, 384), (4149, 448), (8300, 512)] (rdO 217) (pdI tL28) = some (rdO 221, pdI tL29) := ckA2_ok (by decide +kernel)
def tL30 : List Int := [5, -4, 13, -4, 27, 0, 38, 50, 141, 151, 6, 12, 7, -22, 8, -21, 9, 11, 21, 10, -1, -7, -2, -6, -3, -5, 14, 20, 15, -22, 16, -21, 17, 19, 0, 18, -1, -7, -2, -6, -3, -5, 22, 0, 23, 0, 24, 0, 25, 0, 26, 0, 0, -23, 28, 0, 29, 0, 30, 0, 31, 0, 32, 0, 33, 0, 34, 0, 35, 0, 36, 0, 37, 0, 0, -23, 39, 48, 45, 40, 61, 41, 42, -11, 84, 43, 44, 110, -64, -1, 63, 46, 71, 47, 70, -2, 59, 49, 107, -3, 51, 54, 52, 53, -4, 57, 58, -5, 55, 56, -6, 65, -7, -8, -129, -9, -10, 67, 60, 78, -12, 68, 62, 73, -13, 82, 75, 64, 77, -14, 66, -65, -15, -16, -17, -18, 83, 69, 125, -19, -20, 87, 72, 89, -21, 88, 92, 74, 95, -22, 85, 76, 96, -23, -24, 97, 79, 101, 80, 81, -25, 98, 99, -26, 100, -27, -28, 105, -29, 106, 128, 86, -30, -31, -32, -33, -34, -35, 90, 91, -36, -37, -38, -39, 93, 94, -40, -41, -42, -43, -44, -45, -46, -47, -48, -49, -50, -51, -52, -53, -54, -55, 102, -193, 103, 104, -56, -57, -58, -59, -60, -61, -62, -63, 111, 108, 114, 109, 122, -257, -321, -385, -1665, 112, 113, 116, -449, -513, 115, 119, -577, 118, 117, -641, -705, -769, -833, -897, 120, 121, -961, -1025, -1089, -1153, 123, 124, -1217, -1281, -1345, -1409, 126, 127, -1473, -1537, -1601, -1729, 0, 129, 130, 132, 131, 135, -1793, 134, 133, 138, -1857, -1921, -1985, -2049, 136, 137, -2113, -2177, -2241, -2305, 139, 140, -2369, -2433, -2497, -2561, 142, 150, 143, 152, 144, 153, 156, 145, 155, 146, 147, -13, 160, 148, 171, 149, 173, -1, -2, -5, -4, -3, -7, -6, 154, -8, -10, -9, -11, -12, 165, 157, 158, 159, -14, 161, 163, -15, -16, 169, 176, 162, 211, -17, 164, 174, -18, 198, 0, 166, 167, 180, 168, 178, -19, 201, 183, 170, 185, -20, 172, 190, -21, 189, -22, 194, 186, 175, 193, -23, 177, 195, -24, 200, 209, 179, 214, -25, 181, 205, 182, 203, -26, 218, 217, 184, -27, -28, -29, -30, 187, 188, -31, -32, -33, -34, -35, -36, 191, 192, -37, -38, -39, -40, -41, -42, -43, -44, 196, 197, -45, -46, -47, -48, 199, 216, -49, -50, -51, -52, 202, 208, -53, 221, 219, 204, 220, -54, 206, -65, 207, 224, -55, 223, 222, -56, 210, 213, -57, 0, 212, 215, -58, -59, 0, -60, -61, 0, -62, -257, -63, -64, -129, -193, 0, -321, -385, -449, -513, -577, -641, -705, -769, -833, -897, -961, 225, 0, -1025]
theorem tK30 : aFold 200 4 [(8301, 576), (8266, 640), (8267, 704), (8268, 768), (8269, 832), (8306, 896), (8307, 960), (8308, 1024)] (rdO 221) (pdI tL29) = some (rdO 226, pdI tL30) := ckA2_ok (by decide +kernel)
def tL31 : List Int := [5, -4, 13, -4, 27, 0, 38, 50, 141, 151, 6, 12, 7, -22, 8, -21, 9, 11, 21, 10, -1, -7, -2, -6, -3, -5, 14, 20, 15, -22, 16, -21, 17, 19, 0, 18, -1, -7, -2, -6, -3, -5, 22, 0, 23, 0, 24, 0, 25, 0, 26, 0, 0, -23, 28, 0, 29, 0, 30, 0, 31, 0, 32, 0, 33, 0, 34, 0, 35, 0, 36, 0, 37, 0, 0, -23, 39, 48, 45, 40, 61, 41, 42, -11, 84, 43, 44, 110, -64, -1, 63, 46, 71, 47, 70, -2, 59, 49, 107, -3, 51, 54, 52, 53, -4, 57, 58, -5, 55, 56, -6, 65, -7, -8, -129, -9, -10, 67, 60, 78, -12, 68, 62, 73, -13, 82, 75, 64, 77, -14, 66, -65, -15, -16, -17, -18, 83, 69, 125, -19, -20, 87, 72, 89, -21, 88, 92, 74, 95, -22, 85, 76, 96, -23, -24, 97, 79, 101, 80, 81, -25, 98, 99, -26, 100, -27, -28, 105, -29, 106, 128, 86, -30, -31, -32, -33, -34, -35, 90, 91, -36, -37, -38, -39, 93, 94, -40, -41, -42, -43, -44, -45, -46, -47, -48, -49, -50, -51, -52, -53, -54, -55, 102, -193, 103, 104, -56, -57, -58, -59, -60, -61, -62, -63, 111, 108, 114, 109, 122, -257, -321, -385, -1665, 112, 113, 116, -449, -513, 115, 119, -577, 118, 117, -641, -705, -769, -833, -897, 120, 121, -961, -1025, -1089, -1153, 123, 124, -1217, -1281, -1345, -1409, 126, 127, -1473, -1537, -1601, -1729, 0, 129, 130, 132, 131, 135, -1793, 134, 133, 138, -1857, -1921, -1985, -2049, 136, 137, -2113, -2177, -2241, -2305, 139, 140, -2369, -2433, -2497, -2561, 142, 150, 143, 152, 144, 153, 156, 145, 155, 146, 147, -13, 160, 148, 171, 149, 173, -1, -2, -5, -4, -3, -7, -6, 154, -8, -10, -9, -11, -12, 165, 157, 158, 159, -14, 161, 163, -15, -16, 169, 176, 162, 211, -17, 164, 174, -18, 198, 0, 166, 167, 180, 168, 178, -19, 201, 183, 170, 185, -20, 172, 190, -21, 189, -22, 194, 186, 175, 193, -23, 177, 195, -24, 200, 209, 179, 214, -25, 181, 205, 182, 203, -26, 218, 217, 184, -27, -28, -29, -30, 187, 188, -31, -32, -33, -34, -35, -36, 191, 192, -37, -38, -39, -40, -41, -42, -43, -44, 196, 197, -45, -46, -47, -48, 199, 216, -49, -50, -51, -52, 202, 208, -53, 221, 219, 204, 220, -54, 206, -65, 207, 224, -55, 223, 222, -56, 210, 213, -57, 227, 212, 215, -58, -59, 228, -60, -61, 229, -62, -257, -63, -64, -129, -193, 0, -321, -385, -449, -513, -577, -641, -705, -769, -833, -897, -961, 225, 226, -1025, -1089, -1153, -1217, -1281, -1345, -1409, -1473, -1537]
theorem tK31 : aFold 200 4 [(8309, 1088), (8310, 1152), (8311, 1216), (8274, 1280), (8275, 1344), (8276, 1408), (8277, 1472), (8282, 1536)] (rdO 226) (pdI tL30) = some (rdO 230, pdI tL31) := ckA2_ok (by decide +kernel)
def tL32 : List Int := [5, -4, 13, -4, 27, 0, 38, 50, 141, 151, 6, 12, 7, -22, 8, -21, 9, 11, 21, 10, -1, -7, -2, -6, -3, -5, 14, 20, 15, -22, 16, -21, 17, 19, 0, 18, -1, -7, -2, -6, -3, -5, 22, 0, 23, 0, 24, 0, 25, 0, 26, 0, 0, -23, 28, 0, 29, 0, 30, 0, 31, 0, 32, 0, 33, 0, 34, 0, 35, 0, 36, 0, 37, 0, 0, -23, 39, 48, 45, 40, 61, 41, 42, -11, 84, 43, 44, 110, -64, -1, 63, 46, 71, 47, 70, -2, 59, 49, 107, -3, 51, 54, 52, 53, -4, 57, 58, -5, 55, 56, -6, 65, -7, -8, -129, -9, -10, 67, 60, 78, -12, 68, 62, 73, -13, 82, 75, 64, 77, -14, 66, -65, -15, -16, -17, -18, 83, 69, 125, -19, -20, 87, 72, 89, -21, 88, 92, 74, 95, -22, 85, 76, 96, -23, -24, 97, 79, 101, 80, 81, -25, 98, 99, -26, 100, -27, -28, 105, -29, 106, 128, 86, -30, -31, -32, -33, -34, -35, 90, 91, -36, -37, -38, -39, 93, 94, -40, -41, -42, -43, -44, -45, -46, -47, -48, -49, -50, -51, -52, -53, -54, -55, 102, -193, 103, 104, -56, -57, -58, -59, -60, -61, -62, -63, 111, 108, 114, 109, 122, -257, -321, -385, -1665, 112, 113, 116, -449, -513, 115, 119, -577, 118, 117, -641, -705, -769, -833, -897, 120, 121, -961, -1025, -1089, -1153, 123, 124, -1217, -1281, -1345, -1409, 126, 127, -1473, -1537, -1601, -1729, 0, 129, 130, 132, 131, 135, -1793, 134, 133, 138, -1857, -1921, -1985, -2049, 136, 137, -2113, -2177, -2241, -2305, 139, 140, -2369, -2433, -2497, -2561, 142, 150, 143, 152, 144, 153, 156, 145, 155, 146, 147, -13, 160, 148, 171, 149, 173, -1, -2, -5, -4, -3, -7, -6, 154, -8, -10, -9, -11, -12, 165, 157, 158, 159, -14, 161, 163, -15, -16, 169, 176, 162, 211, -17, 164, 174, -18, 198, 0, 166, 167, 180, 168, 178, -19, 201, 183, 170, 185, -20, 172, 190, -21, 189, -22, 194, 186, 175, 193, -23, 177, 195, -24, 200, 209, 179, 214, -25, 181, 205, 182, 203, -26, 218, 217, 184, -27, -28, -29, -30, 187, 188, -31, -32, -33, -34, -35, -36, 191, 192, -37, -38, -39, -40, -41, -42, -43, -44, 196, 197, -45, -46, -47, -48, 199, 216, -49, -50, -51, -52, 202, 208, -53, 221, 219, 204, 220, -54, 206, -65, 207, 224, -55, 223, 222, -56, 210, 213, -57, 227, 212, 215, -58, -59, 228, -60, -61, 229, -62, -257, -63, -64, -129, -193, 230, -321, -385, -449, -513, -577, -641, -705, -769, -833, -897, -961, 225, 226, -1025, -1089, -1153, -1217, -1281, -1345, -1409, -1473, -1537, -1601, -1665, -1729]
theorem tK32 : aFold 200 4 [(8283, 1600), (8292, 1664), (8293, 1728)] (rdO 230) (pdI tL31) = some (rdO 231, pdI tL32) := ckA2_ok (by decide +kernel)
set_option maxRecDepth 100000 in
theorem tB_rb2 : aFold 200 4 [(1039, 64), (4296, 128), (4297, 192), (4187, 256), (4147, 320), (4148, 384), (4149, 448), (8300, 512), (8301, 576), (8266, 640), (8267, 704), (8268, 768), (8269, 832), (8306, 896), (8307, 960), (8308, 1024), (8309, 1088), (8310, 1152), (8311, 1216), (8274, 1280), (8275, 1344), (8276, 1408), (8277, 1472), (8282, 1536), (8283, 1600), (8292, 1664), (8293, 1728)] (rdO 217) (pdI tL28) = some (rdO 231, pdI tL32) := aFold_app _ _ _ _ _ _ tK29 (aFold_app _ _ _ _ _ _ tK30 (aFold_app _ _ _ _ _ _ tK31 (tK32)))
def tL33 : List Int := [5, -4, 13, -4, 27, 0, 38, 50, 141, 151, 6, 12, 7, -22, 8, -21, 9, 11, 21, 10, -1, -7, -2, -6, -3, -5, 14, 20, 15, -22, 16, -21, 17, 19, 0, 18, -1, -7, -2, -6, -3, -5, 22, 0, 23, 0, 24, 0, 25, 0, 26, 0, 0, -23, 28, 0, 29, 0, 30, 0, 31, 0, 32, 0, 33, 0, 34, 0, 35, 0, 36, 0, 37, 0, 0, -23, 39, 48, 45, 40, 61, 41, 42, -11, 84, 43, 44, 110, -64, -1, 63, 46, 71, 47, 70, -2, 59, 49, 107, -3, 51, 54, 52, 53, -4, 57, 58, -5, 55, 56, -6, 65, -7, -8, -129, -9, -10, 67, 60, 78, -12, 68, 62, 73, -13, 82, 75, 64, 77, -14, 66, -65, -15, -16, -17, -18, 83, 69, 125, -19, -20, 87, 72, 89, -21, 88, 92, 74, 95, -22, 85, 76, 96, -23, -24, 97, 79, 101, 80, 81, -25, 98, 99, -26, 100, -27, -28, 105, -29, 106, 128, 86, -30, -31, -32, -33, -34, -35, 90, 91, -36, -37, -38, -39, 93, 94, -40, -41, -42, -43, -44, -45, -46, -47, -48, -49, -50, -51, -52, -53, -54, -55, 102, -193, 103, 104, -56, -57, -58, -59, -60, -61, -62, -63, 111, 108, 114, 109, 122, -257, -321, -385, -1665, 112, 113, 116, -449, -513, 115, 119, -577, 118, 117, -641, -705, -769, -833, -897, 120, 121, -961, -1025, -1089, -1153, 123, 124, -1217, -1281, -1345, -1409, 126, 127, -1473, -1537, -1601, -1729, 0, 129, 130, 132, 131, 135, -1793, 134, 133, 138, -1857, -1921, -1985, -2049, 136, 137, -2113, -2177, -2241, -2305, 139, 140, -2369, -2433, -2497, -2561, 142, 150, 143, 152, 144, 153, 156, 145, 155, 146, 147, -13, 160, 148, 171, 149, 173, -1, -2, -5, -4, -3, -7, -6, 154, -8, -10, -9, -11, -12, 165, 157, 158, 159, -14, 161, 163, -15, -16, 169, 176, 162, 211, -17, 164, 174, -18, 198, 231, 166, 167, 180, 168, 178, -19, 201, 183, 170, 185, -20, 172, 190, -21, 189, -22, 194, 186, 175, 193, -23, 177, 195, -24, 200, 209, 179, 214, -25, 181, 205, 182, 203, -26, 218, 217, 184, -27, -28, -29, -30, 187, 188, -31, -32, -33, -34, -35, -36, 191, 192, -37, -38, -39, -40, -41, -42, -43, -44, 196, 197, -45, -46, -47, -48, 199, 216, -49, -50, -51, -52, 202, 208, -53, 221, 219, 204, 220, -54, 206, -65, 207, 224, -55, 223, 222, -56, 210, 213, -57, 227, 212, 215, -58, -59, 228, -60, -61, 229, -62, -257, -63, -64, -129, -193, 230, -321, -385, -449, -513, -577, -641, -705, -769, -833, -897, -961, 225, 226, -1025, -1089, -1153, -1217, -1281, -1345, -1409, -1473, -1537, -1601, -1665, -1729, 0, 232, 233, 235, 234, 238, -1793, 237, 236, 0, -1857, -1921, -1985, -2049, 239, 240, -2113, -2177, -2241]
theorem tK33 : aFold 200 4 [(2056, 1792), (2060, 1856), (2061, 1920), (4114, 1984), (4115, 2048), (4116, 2112), (4117, 2176), (4118, 2240)] (rdO 231) (pdI tL32) = some (rdO 241, pdI tL33) := ckA2_ok (by decide +kernel)
def tL34 : List Int := [5, -4, 13, -4, 27, 0, 38, 50, 141, 151, 6, 12, 7, -22, 8, -21, 9, 11, 21, 10, -1, -7, -2, -6, -3, -5, 14, 20, 15, -22, 16, -21, 17, 19, 0, 18, -1, -7, -2, -6, -3, -5, 22, 0, 23, 0, 24, 0, 25, 0, 26, 0, 0, -23, 28, 0, 29, 0, 30, 0, 31, 0, 32, 0, 33, 0, 34, 0, 35, 0, 36, 0, 37, 0, 0, -23, 39, 48, 45, 40, 61, 41, 42, -11, 84, 43, 44, 110, -64, -1, 63, 46, 71, 47, 70, -2, 59, 49, 107, -3, 51, 54, 52, 53, -4, 57, 58, -5, 55, 56, -6, 65, -7, -8, -129, -9, -10, 67, 60, 78, -12, 68, 62, 73, -13, 82, 75, 64, 77, -14, 66, -65, -15, -16, -17, -18, 83, 69, 125, -19, -20, 87, 72, 89, -21, 88, 92, 74, 95, -22, 85, 76, 96, -23, -24, 97, 79, 101, 80, 81, -25, 98, 99, -26, 100, -27, -28, 105, -29, 106, 128, 86, -30, -31, -32, -33, -34, -35, 90, 91, -36, -37, -38, -39, 93, 94, -40, -41, -42, -43, -44, -45, -46, -47, -48, -49, -50, -51, -52, -53, -54, -55, 102, -193, 103, 104, -56, -57, -58, -59, -60, -61, -62, -63, 111, 108, 114, 109, 122, -257, -321, -385, -1665, 112, 113, 116, -449, -513, 115, 119, -577, 118, 117, -641, -705, -769, -833, -897, 120, 121, -961, -1025, -1089, -1153, 123, 124, -1217, -1281, -1345, -1409, 126, 127, -1473, -1537, -1601, -1729, 0, 129, 130, 132, 131, 135, -1793, 134, 133, 138, -1857, -1921, -1985, -2049, 136, 137, -2113, -2177, -2241, -2305, 139, 140, -2369, -2433, -2497, -2561, 142, 150, 143, 152, 144, 153, 156, 145, 155, 146, 147, -13, 160, 148, 171, 149, 173, -1, -2, -5, -4, -3, -7, -6, 154, -8, -10, -9, -11, -12, 165, 157, 158, 159, -14, 161, 163, -15, -16, 169, 176, 162, 211, -17, 164, 174, -18, 198, 231, 166, 167, 180, 168, 178, -19, 201, 183, 170, 185, -20, 172, 190, -21, 189, -22, 194, 186, 175, 193, -23, 177, 195, -24, 200, 209, 179, 214, -25, 181, 205, 182, 203, -26, 218, 217, 184, -27, -28, -29, -30, 187, 188, -31, -32, -33, -34, -35, -36, 191, 192, -37, -38, -39, -40, -41, -42, -43, -44, 196, 197, -45, -46, -47, -48, 199, 216, -49, -50, -51, -52, 202, 208, -53, 221, 219, 204, 220, -54, 206, -65, 207, 224, -55, 223, 222, -56, 210, 213, -57, 227, 212, 215, -58, -59, 228, -60, -61, 229, -62, -257, -63, -64, -129, -193, 230, -321, -385, -449, -513, -577, -641, -705, -769, -833, -897, -961, 225, 226, -1025, -1089, -1153, -1217, -1281, -1345, -1409, -1473, -1537, -1601, -1665, -1729, 0, 232, 233, 235, 234, 238, -1793, 237, 236, 241, -1857, -1921, -1985, -2049, 239, 240, -2113, -2177, -2241, -2305, 242, 243, -2369, -2433, -2497, -2561]
theorem tK34 : aFold 200 4 [(4119, 2304), (4124, 2368), (4125, 2432), (4126, 2496), (4127, 2560)] (rdO 241) (pdI tL33) = some (rdO 244, pdI tL34) := ckA2_ok (by decide +kernel)
set_option maxRecDepth 100000 in
theorem tB_rb3 : aFold 200 4 [(2056, 1792), (2060, 1856), (2061, 1920), (4114, 1984), (4115, 2048), (4116, 2112), (4117, 2176), (4118, 2240), (4119, 2304), (4124, 2368), (4125, 2432), (4126, 2496), (4127, 2560)] (rdO 231) (pdI tL32) = some (rdO 244, pdI tL34) := aFold_app _ _ _ _ _ _ tK33 (tK34)
