def trL : List Int := [5, -4, 13, -4, 27, 0, 38, 50, 141, 151, 6, 12, 7, -22, 8, -21, 9, 11, 21, 10, -1, -7, -2, -6, -3, -5, 14, 20, 15, -22, 16, -21, 17, 19, 0, 18, -1, -7, -2, -6, -3, -5, 22, 0, 23, 0, 24, 0, 25, 0, 26, 0, 0, -23, 28, 0, 29, 0, 30, 0, 31, 0, 32, 0, 33, 0, 34, 0, 35, 0, 36, 0, 37, 0, 0, -23, 39, 48, 45, 40, 61, 41, 42, -11, 84, 43, 44, 110, -64, -1, 63, 46, 71, 47, 70, -2, 59, 49, 107, -3, 51, 54, 52, 53, -4, 57, 58, -5, 55, 56, -6, 65, -7, -8, -129, -9, -10, 67, 60, 78, -12, 68, 62, 73, -13, 82, 75, 64, 77, -14, 66, -65, -15, -16, -17, -18, 83, 69, 125, -19, -20, 87, 72, 89, -21, 88, 92, 74, 95, -22, 85, 76, 96, -23, -24, 97, 79, 101, 80, 81, -25, 98, 99, -26, 100, -27, -28, 105, -29, 106, 128, 86, -30, -31, -32, -33, -34, -35, 90, 91, -36, -37, -38, -39, 93, 94, -40, -41, -42, -43, -44, -45, -46, -47, -48, -49, -50, -51, -52, -53, -54, -55, 102, -193, 103, 104, -56, -57, -58, -59, -60, -61, -62, -63, 111, 108, 114, 109, 122, -257, -321, -385, -1665, 112, 113, 116, -449, -513, 115, 119, -577, 118, 117, -641, -705, -769, -833, -897, 120, 121, -961, -1025, -1089, -1153, 123, 124, -1217, -1281, -1345, -1409, 126, 127, -1473, -1537, -1601, -1729, 0, 129, 130, 132, 131, 135, -1793, 134, 133, 138, -1857, -1921, -1985, -2049, 136, 137, -2113, -2177, -2241, -2305, 139, 140, -2369, -2433, -2497, -2561, 142, 150, 143, 152, 144, 153, 156, 145, 155, 146, 147, -13, 160, 148, 171, 149, 173, -1, -2, -5, -4, -3, -7, -6, 154, -8, -10, -9, -11, -12, 165, 157, 158, 159, -14, 161, 163, -15, -16, 169, 176, 162, 211, -17, 164, 174, -18, 198, 231, 166, 167, 180, 168, 178, -19, 201, 183, 170, 185, -20, 172, 190, -21, 189, -22, 194, 186, 175, 193, -23, 177, 195, -24, 200, 209, 179, 214, -25, 181, 205, 182, 203, -26, 218, 217, 184, -27, -28, -29, -30, 187, 188, -31, -32, -33, -34, -35, -36, 191, 192, -37, -38, -39, -40, -41, -42, -43, -44, 196, 197, -45, -46, -47, -48, 199, 216, -49, -50, -51, -52, 202, 208, -53, 221, 219, 204, 220, -54, 206, -65, 207, 224, -55, 223, 222, -56, 210, 213, -57, 227, 212, 215, -58, -59, 228, -60, -61, 229, -62, -257, -63, -64, -129, -193, 230, -321, -385, -449, -513, -577, -641, -705, -769, -833, -897, -961, 225, 226, -1025, -1089, -1153, -1217, -1281, -1345, -1409, -1473, -1537, -1601, -1665, -1729, 0, 232, 233, 235, 234, 238, -1793, 237, 236, 241, -1857, -1921, -1985, -2049, 239, 240, -2113, -2177, -2241, -2305, 242, 243, -2369, -2433, -2497, -2561]
def trT (i : Nat) : Int32 := iI (trL.getD i 0)
def wrL : List Nat := [309, 71, 23, 24, 27, 28, 30, 31, 51, 52, 39, 40, 72, 67, 116, 117, 106, 107, 167, 140, 136, 151, 131, 132, 168, 171, 147, 164, 152, 258, 259, 282, 283, 274, 275, 276, 277, 278, 279, 296, 297, 298, 299, 300, 301, 260, 261, 266, 267, 338, 339, 340, 341, 292, 293, 344, 345, 346, 347, 330, 331, 306, 307, 308]
def wrWd (i : Nat) : Nat := wrL.getD i 0
def wbL : List Nat := [59, 50, 87, 183, 310, 311, 356, 357, 360, 359, 716, 717, 722, 723, 724, 725, 726, 727, 728, 729, 730, 731, 664, 665, 666, 88, 667]
def wbWd (i : Nat) : Nat := wbL.getD i 0
def brL : List Nat := [1079, 10, 7, 6, 11, 19, 18, 35, 69, 68, 132, 133, 135, 260, 263, 536, 1047, 1048, 1032, 2151, 2152, 2156, 2103, 2088, 2071, 2072, 4298, 4299, 4300, 4301, 4200, 4201, 4202, 4203, 4306, 4307, 4308, 4309, 4310, 4311, 4204, 4205, 4314, 4315, 4180, 4181, 4182, 4183, 4196, 4197, 4178, 4179, 4132, 4151, 4152, 4135, 4136, 4184, 4185, 4139, 4140, 4186, 4198, 4199]
def brWd (i : Nat) : Nat := brL.getD i 0
def bbL : List Nat := [1039, 4296, 4297, 4187, 4147, 4148, 4149, 8300, 8301, 8266, 8267, 8268, 8269, 8306, 8307, 8308, 8309, 8310, 8311, 8274, 8275, 8276, 8277, 8282, 8283, 8292, 8293]
def bbWd (i : Nat) : Nat := bbL.getD i 0
def lbL : List Nat := [2056, 2060, 2061, 4114, 4115, 4116, 4117, 4118, 4119, 4124, 4125, 4126, 4127]
def lbWd (i : Nat) : Nat := lbL.getD i 0
def moL : List Nat := [17, 9, 130, 66, 10, 3, 11, 67, 131, 4097]
def moWd (i : Nat) : Nat := moL.getD i 0
def pr0 : List (Nat × Nat) := [(1, 0), (2, 5), (4, 6), (5, 12), (8, 7), (16, 8), (32, 9), (33, 11), (64, 21), (65, 10), (128, 22), (256, 23), (512, 24), (1024, 25), (2048, 26)]
def pr1 : List (Nat × Nat) := [(1, 1), (2, 13), (4, 14), (5, 20), (8, 15), (16, 16), (32, 17), (33, 19), (65, 18)]
def pr2 : List (Nat × Nat) := [(1, 2), (2, 27), (4, 28), (8, 29), (16, 30), (32, 31), (64, 32), (128, 33), (256, 34), (512, 35), (1024, 36), (2048, 37)]
def pr3 : List (Nat × Nat) := [(1, 3), (2, 38), (3, 50), (4, 39), (5, 48), (6, 51), (7, 54), (8, 45), (9, 40), (10, 59), (11, 49), (12, 52), (13, 53), (14, 55), (15, 56), (16, 63), (17, 46), (18, 61), (19, 41), (20, 60), (21, 78), (22, 107), (25, 57), (26, 58), (29, 65), (32, 75), (33, 64), (34, 71), (35, 47), (36, 62), (37, 73), (38, 42), (41, 68), (42, 79), (43, 101), (44, 111), (45, 108), (53, 67), (58, 66), (64, 85), (65, 76), (66, 77), (68, 72), (69, 89), (70, 70), (73, 82), (74, 92), (75, 74), (76, 84), (77, 43), (82, 83), (83, 69), (84, 80), (85, 81), (86, 102), (89, 112), (90, 114), (91, 109), (128, 128), (129, 86), (130, 96), (133, 97), (137, 88), (138, 90), (139, 91), (141, 87), (146, 100), (148, 93), (149, 94), (150, 95), (153, 106), (154, 44), (155, 110), (165, 105), (166, 125), (169, 98), (170, 99), (172, 103), (173, 104), (178, 113), (179, 116), (180, 115), (181, 119), (182, 122), (257, 129), (332, 126), (333, 127), (358, 117), (361, 118), (362, 120), (363, 121), (364, 123), (365, 124), (514, 130), (515, 132), (1028, 131), (1029, 135), (1030, 133), (1031, 138), (2057, 134), (2058, 136), (2059, 137), (2062, 139), (2063, 140)]
def pr4 : List (Nat × Nat) := [(1, 4), (2, 141), (3, 151), (4, 142), (5, 150), (8, 143), (9, 152), (16, 144), (17, 153), (32, 156), (33, 145), (34, 154), (64, 165), (65, 157), (66, 155), (67, 146), (128, 231), (129, 166), (130, 158), (131, 159), (134, 147), (257, 232), (258, 167), (259, 180), (261, 161), (262, 163), (268, 160), (269, 148), (514, 233), (515, 235), (516, 168), (517, 178), (518, 181), (519, 205), (522, 176), (523, 162), (524, 164), (525, 174), (537, 169), (538, 171), (539, 149), (1028, 234), (1029, 238), (1030, 236), (1031, 241), (1033, 201), (1034, 209), (1035, 179), (1036, 182), (1037, 203), (1038, 206), (1044, 177), (1045, 195), (1046, 211), (1049, 198), (1050, 186), (1051, 175), (1074, 183), (1075, 170), (1076, 172), (1077, 190), (1078, 173), (2057, 237), (2058, 239), (2059, 240), (2062, 242), (2063, 243), (2066, 202), (2067, 208), (2068, 210), (2069, 213), (2070, 214), (2073, 218), (2074, 219), (2075, 204), (2076, 207), (2077, 224), (2089, 200), (2090, 196), (2091, 197), (2092, 212), (2093, 215), (2098, 199), (2099, 216), (2100, 187), (2101, 188), (2102, 193), (2148, 217), (2149, 184), (2150, 185), (2153, 189), (2154, 191), (2155, 192), (2157, 194), (4133, 221), (4134, 222), (4137, 227), (4138, 228), (4141, 229), (4146, 230), (4150, 220), (4153, 223), (4154, 225), (4155, 226)]
/-- what the class says for a mode -/
def cmN (k : Int) : Int := if k = 0 then 20 else if k = 1 then 21 else if k = 9 then 22 else k - 2
/-- the tree of a root spells the words -/
def trOK (val : Nat → Int) (beg : Nat → Bool) (mean : Int → Int) (pr : List (Nat × Nat)) : Bool := pr.all (fun p => [0, 1].all (fun b => if 0 ≤ val (2 * p.1 + b) then trL.getD (2 * p.2 + b) 0 == -1 - mean (val (2 * p.1 + b)) else if beg (2 * p.1 + b) then decide (0 < trL.getD (2 * p.2 + b) 0) && (decide (trL.getD (2 * p.2 + b) 0 < 512) && pr.contains (2 * p.1 + b, (trL.getD (2 * p.2 + b) 0).toNat)) else trL.getD (2 * p.2 + b) 0 == 0))
theorem tr_0 : trOK (fun v => plc moWd v 10) (fun v => bgn moWd v 10) cmN pr0 = true := by decide +kernel
theorem tr_1 : trOK (fun v => plc moWd v 9) (fun v => bgn moWd v 9) cmN pr1 = true := by decide +kernel
theorem tr_2 : trOK (fun v => plc l1N v 1) (fun v => bgn l1N v 1) (fun _ => 22) pr2 = true := by decide +kernel
theorem tr_3 : trOK (rnV wrWd wbWd lbWd) (rnB wrWd wbWd lbWd) id pr3 = true := by decide +kernel
theorem tr_4 : trOK (rnV brWd bbWd lbWd) (rnB brWd bbWd lbWd) id pr4 = true := by decide +kernel
/-- the class's reader -/
def cL (nd : Int32) (at_ en : Nat) (t : Bool) (ac lc : Nat) (w : Nat) (a : Int32) (co ov ru : Int32) : ob_LineReader := (nd, nI at_, nI en, nI t.toNat, nI ac, nI lc, nI w, a, co, ov, ru)
/-- a word is read, in general -/
def wdG (bit : Nat → Bool) (nb : Nat) (val : Nat → Int) (beg : Nat → Bool) (mean : Int → Int) : Nat → Nat → Nat → Nat × Int
  | 0, _, i => (i, -2)
  | f + 1, v, i => if i = nb then (i, -1) else if 0 ≤ val (2 * v + (bit i).toNat) then (i + 1, mean (val (2 * v + (bit i).toNat))) else if beg (2 * v + (bit i).toNat) then wdG bit nb val beg mean f (2 * v + (bit i).toNat) (i + 1) else (i + 1, -2)
theorem wdG_md (bit : Nat → Bool) (nb : Nat) (l : Nat → Nat) (m : Nat) (mean : Int → Int) : ∀ f v i, wdG bit nb (fun v => plc l v m) (fun v => bgn l v m) mean f v i = ((mdA bit nb l m f v i).1, if 0 ≤ (mdA bit nb l m f v i).2 then mean (mdA bit nb l m f v i).2 else (mdA bit nb l m f v i).2) := by
  intro f
  induction f with
  | zero => intro v i; rfl
  | succ f ih =>
    intro v i
    rw [wdG, mdA]
    by_cases q1 : i = nb
    · rw [if_pos q1, if_pos q1]; rfl
    · rw [if_neg q1, if_neg q1]
      by_cases q2 : 0 ≤ plc l (2 * v + (bit i).toNat) m
      · rw [if_pos q2, if_pos q2, if_pos q2]
      · rw [if_neg q2, if_neg q2]
        by_cases q3 : bgn l (2 * v + (bit i).toNat) m = true
        · rw [if_pos q3, if_pos q3]; exact ih _ _
        · rw [if_neg q3, if_neg q3]; rfl
theorem wdG_rn (bit : Nat → Bool) (nb : Nat) (lr lo lb : Nat → Nat) : ∀ f v i, wdG bit nb (rnV lr lo lb) (rnB lr lo lb) id f v i = rnA bit nb lr lo lb f v i := by
  intro f
  induction f with
  | zero => intro v i; rfl
  | succ f ih =>
    intro v i
    rw [wdG, rnA, ih]; rfl
theorem trOK_at {val : Nat → Int} {beg : Nat → Bool} {mean : Int → Int} {pr : List (Nat × Nat)} (h : trOK val beg mean pr = true) {v nd : Nat} (hp : (v, nd) ∈ pr) (b : Bool) : (0 ≤ val (2 * v + b.toNat) → trL.getD (2 * nd + b.toNat) 0 = -1 - mean (val (2 * v + b.toNat))) ∧ (¬ 0 ≤ val (2 * v + b.toNat) → beg (2 * v + b.toNat) = true → ∃ k : Nat, trL.getD (2 * nd + b.toNat) 0 = k ∧ 0 < k ∧ k < 512 ∧ (2 * v + b.toNat, k) ∈ pr) ∧ (¬ 0 ≤ val (2 * v + b.toNat) → ¬ beg (2 * v + b.toNat) = true → trL.getD (2 * nd + b.toNat) 0 = 0) := by
  unfold trOK at h
  have h1 := List.all_eq_true.mp h (v, nd) hp
  have h2 := List.all_eq_true.mp h1 b.toNat (by cases b <;> simp)
  simp only [] at h2
  by_cases q1 : 0 ≤ val (2 * v + b.toNat)
  · rw [if_pos q1] at h2
    exact ⟨fun _ => by simpa using h2, fun q => absurd q1 q, fun q => absurd q1 q⟩
  · rw [if_neg q1] at h2
    refine ⟨fun q => absurd q q1, fun _ q2 => ?_, fun _ q2 => ?_⟩
    · rw [if_pos q2, Bool.and_eq_true, Bool.and_eq_true] at h2
      obtain ⟨a1, a2, a3⟩ := h2
      have a1' := of_decide_eq_true a1
      have a2' := of_decide_eq_true a2
      refine ⟨(trL.getD (2 * nd + b.toNat) 0).toNat, by omega, by omega, by omega, ?_⟩
      simpa using a3
    · rw [if_neg q2] at h2
      simpa using h2
def trP (pr : List (Nat × Nat)) : Bool := pr.all (fun p => decide (p.1 < 8192) && decide (p.2 < 512))
theorem trP_at {pr : List (Nat × Nat)} (h : trP pr = true) {v nd : Nat} (hp : (v, nd) ∈ pr) : v < 8192 ∧ nd < 512 := by
  have h1 := List.all_eq_true.mp h (v, nd) hp
  simp only [Bool.and_eq_true] at h1
  exact ⟨of_decide_eq_true h1.1, of_decide_eq_true h1.2⟩
theorem lr_next {nB0 en : Nat} {t : Bool} {nd0 : Int32} {ac lc w : Nat} {a co ov ru : Int32} {g tr : Nat → Int32} {val : Nat → Int} {beg : Nat → Bool} {mean : Int → Int} {pr : List (Nat × Nat)} {pl nB : Nat} (hpl : pl + nB ≤ nB0) (hn0 : nB0 ≤ 65536) (hen : en = 8 * (pl + nB)) (htr : agree 1024 tr trT) (hok : trOK val beg mean pr = true) (hpr : trP pr = true) (hval : ∀ v, val v ≤ 2624) (hmean : ∀ k, 0 ≤ k → k ≤ 2624 → 0 ≤ mean k ∧ mean k ≤ 2624) :
    ∀ (f v i nd n d : Nat), (v, nd) ∈ pr → d + f = 13 → 2 ^ d ≤ v → f < n → i ≤ 8 * nB → lp_LineReader_nextWord_4 nB0 g tr n (nI d) (nI nd) (cL nd0 (8 * pl + i) en t ac lc w a co ov ru) = some (Sum.inr (cL nd0 (8 * pl + (wdG (sbit t g pl) (8 * nB) val beg mean (f + 1) v i).1) en t ac lc w a co ov ru, iI (wdG (sbit t g pl) (8 * nB) val beg mean (f + 1) v i).2)) := by
  intro f
  induction f with
  | zero =>
    intro v i nd n d hp hd hv
    have h1 := (trP_at hpr hp).1
    rw [show d = 13 by omega] at hv
    exact absurd hv (by omega)
  | succ f ih =>
    intro v i nd n d hp hd hv hn hi
    obtain ⟨n, rfl⟩ : ∃ z, n = z + 1 := ⟨n - 1, by omega⟩
    have hpr1 := trP_at hpr hp
    rw [lp_LineReader_nextWord_4, if_neg (show ¬ (13 : Int32) ≤ nI d from nI_ge (b := 13) (by omega) (by omega)), wdG]
    have hat : (fd_LineReader_end (cL nd0 (8 * pl + i) en t ac lc w a co ov ru) ≤ fd_LineReader_at (cL nd0 (8 * pl + i) en t ac lc w a co ov ru)) ↔ i = 8 * nB := by
      show nI en ≤ nI (8 * pl + i) ↔ _
      constructor
      · intro h
        exact Classical.byContradiction fun e => nI_ge (a := 8 * pl + i) (b := en) (by omega) (by omega) h
      · intro h
        exact nI_le (by omega) (by omega)
    by_cases q1 : i = 8 * nB
    · rw [if_pos (hat.mpr q1), if_pos q1]; rfl
    · rw [if_neg (mt hat.mp q1), if_neg q1]
      have e1 : fd_LineReader_at (cL nd0 (8 * pl + i) en t ac lc w a co ov ru) >>> ((3 : Int32) &&& 31) = nI (pl + i / 8) := by
        show nI (8 * pl + i) >>> (nI 3 &&& 31) = _
        rw [nI_shr (by omega) (by omega), Nat.shiftRight_eq_div_pow]; congr 1; omega
      have e2 : fd_LineReader_at (cL nd0 (8 * pl + i) en t ac lc w a co ov ru) &&& 7 = nI (i % 8) := by
        show nI (8 * pl + i) &&& 7 = _
        rw [nI_and7 (by omega)]; congr 1; omega
      have e3 : (7 : Int32) - nI (i % 8) = nI (7 - i % 8) := nI_sub (a := 7) (by omega)
      have e4 : fd_LineReader_at (cL nd0 (8 * pl + i) en t ac lc w a co ov ru) + 1 = nI (8 * pl + (i + 1)) := by
        show nI (8 * pl + i) + 1 = _
        rw [nI_1, Nat.add_assoc]
      rw [e1, if_neg (show ¬ nI (pl + i / 8) < 0 from nI_pos (by omega)), if_pos (show nI (pl + i / 8) < nI nB0 from nI_lt (by omega) (by omega)), if_pos (dk_in_nI (by omega) (by omega))]
      unfold dk_let
      obtain ⟨v', hv'⟩ : ∃ v', v' = 2 * v + (sbit t g pl i).toNat := ⟨_, rfl⟩
      have hb1 : (sbit t g pl i).toNat ≤ 1 := by cases sbit t g pl i <;> decide
      have hstep : ∀ (y : Int32), y = nI (2 * nd + (sbit t g pl i).toNat) → (if y < 0 then some (Sum.inr (fs_LineReader_at (cL nd0 (8 * pl + i) en t ac lc w a co ov ru) (nI (8 * pl + (i + 1))), -2)) else if (1024 : Int32) ≤ y then some (Sum.inr (fs_LineReader_at (cL nd0 (8 * pl + i) en t ac lc w a co ov ru) (nI (8 * pl + (i + 1))), -2)) else if dk_in y 1024 then (if tr y.toNatClampNeg = 0 then some (Sum.inr (fs_LineReader_at (cL nd0 (8 * pl + i) en t ac lc w a co ov ru) (nI (8 * pl + (i + 1))), -2)) else if (0 : Int32) ≤ tr y.toNatClampNeg then lp_LineReader_nextWord_4 nB0 g tr n (nI d + 1) (tr y.toNatClampNeg) (fs_LineReader_at (cL nd0 (8 * pl + i) en t ac lc w a co ov ru) (nI (8 * pl + (i + 1)))) else some (Sum.inr (fs_LineReader_at (cL nd0 (8 * pl + i) en t ac lc w a co ov ru) (nI (8 * pl + (i + 1))), -1 - tr y.toNatClampNeg))) else none) = some (Sum.inr (cL nd0 (8 * pl + (if 0 ≤ val v' then (i + 1, mean (val v')) else if beg v' then wdG (sbit t g pl) (8 * nB) val beg mean (f + 1) v' (i + 1) else (i + 1, -2)).1) en t ac lc w a co ov ru, iI (if 0 ≤ val v' then (i + 1, mean (val v')) else if beg v' then wdG (sbit t g pl) (8 * nB) val beg mean (f + 1) v' (i + 1) else (i + 1, -2)).2)) := by
        intro y hy
        subst hy
        rw [if_neg (show ¬ nI (2 * nd + (sbit t g pl i).toNat) < 0 from nI_pos (by omega)), if_neg (show ¬ (1024 : Int32) ≤ nI (2 * nd + (sbit t g pl i).toNat) from nI_ge (b := 1024) (by omega) (by omega)), if_pos (dk_in_nI (by omega) (by omega)), nI_clamp (by omega), htr _ (by omega)]
        have htt : trT (2 * nd + (sbit t g pl i).toNat) = iI (trL.getD (2 * nd + (sbit t g pl i).toNat) 0) := rfl
        obtain ⟨k1, k2, k3⟩ := trOK_at hok hp (sbit t g pl i)
        rw [← hv'] at k1 k2 k3
        have hvl := hval v'
        rw [htt]
        by_cases q2 : 0 ≤ val v'
        · have hm := hmean _ q2 hvl
          rw [k1 q2, if_neg (show ¬ iI (-1 - mean (val v')) = 0 from mt (iI_eq (b := 0) (by omega) (by omega)).mp (by omega)), if_neg (show ¬ (0 : Int32) ≤ iI (-1 - mean (val v')) from mt (iI_le (a := 0) (by omega) (by omega)).mp (by omega)), if_pos q2]
          have : (-1 : Int32) - iI (-1 - mean (val v')) = iI (mean (val v')) := by
            rw [show (-1 : Int32) = iI (-1) from rfl, iI_sub]; congr 1; omega
          rw [this]; rfl
        · rw [if_neg q2]
          by_cases q3 : beg v' = true
          · obtain ⟨k, a1, a2, a3, a4⟩ := k2 q2 q3
            rw [a1, if_pos q3]
            have ek : iI (k : Int) = nI k := rfl
            rw [ek, if_neg (show ¬ nI k = 0 from mt (nI_eq (b := 0) (by omega) (by omega)).mp (by omega)), if_pos (show (0 : Int32) ≤ nI k from nI_le (a := 0) (by omega) (by omega)), nI_1]
            exact ih v' (i + 1) k n (d + 1) a4 (by omega) (by rw [Nat.pow_succ]; omega) (by omega) (by omega)
          · rw [k3 q2 q3, if_neg q3, if_pos (show iI 0 = 0 from rfl)]; rfl
      rw [← hv']
      cases ht : t with
      | false =>
        subst ht
        refine (if_pos (show nI false.toNat = 0 from rfl)).trans ?_
        have ey : (2 * nI nd) + ((g (nI (pl + i / 8)).toNatClampNeg >>> ((7 - (fd_LineReader_at (cL nd0 (8 * pl + i) en false ac lc w a co ov ru) &&& 7)) &&& 31)) &&& 1) = nI (2 * nd + (sbit false g pl i).toNat) := by
          rw [e2, e3, nI_clamp (by omega), i32_bit _ (by omega), show (2 : Int32) * nI nd = nI (2 * nd) from nI_mul 2 nd, nI_add]; rfl
        rw [e4]
        exact hstep _ ey
      | true =>
        subst ht
        refine (if_neg (show ¬ nI true.toNat = 0 by decide)).trans ?_
        have ey : (2 * nI nd) + ((g (nI (pl + i / 8)).toNatClampNeg >>> ((fd_LineReader_at (cL nd0 (8 * pl + i) en true ac lc w a co ov ru) &&& 7) &&& 31)) &&& 1) = nI (2 * nd + (sbit true g pl i).toNat) := by
          rw [e2, nI_clamp (by omega), i32_bit _ (by omega), show (2 : Int32) * nI nd = nI (2 * nd) from nI_mul 2 nd, nI_add]; rfl
        rw [e4]
        exact hstep _ ey
theorem trP_0 : trP pr0 = true := by decide +kernel
theorem trP_1 : trP pr1 = true := by decide +kernel
theorem trP_2 : trP pr2 = true := by decide +kernel
theorem trP_3 : trP pr3 = true := by decide +kernel
theorem trP_4 : trP pr4 = true := by decide +kernel
/-- a word is read by the class -/
theorem lr_word {N nB0 en : Nat} {t : Bool} {nd0 : Int32} {ac lc w : Nat} {a co ov ru : Int32} {g tr : Nat → Int32} {val : Nat → Int} {beg : Nat → Bool} {mean : Int → Int} {pr : List (Nat × Nat)} {pl nB r i : Nat} (hN : 20 < N) (hpl : pl + nB ≤ nB0) (hn0 : nB0 ≤ 65536) (hen : en = 8 * (pl + nB)) (htr : agree 1024 tr trT) (hok : trOK val beg mean pr = true) (hpr : trP pr = true) (hval : ∀ v, val v ≤ 2624) (hmean : ∀ k, 0 ≤ k → k ≤ 2624 → 0 ≤ mean k ∧ mean k ≤ 2624) (hr : (1, r) ∈ pr) (hi : i ≤ 8 * nB) : ex_LineReader_nextWord N (cL nd0 (8 * pl + i) en t ac lc w a co ov ru) nB0 g tr (nI r) = some (cL nd0 (8 * pl + (wdG (sbit t g pl) (8 * nB) val beg mean 14 1 i).1) en t ac lc w a co ov ru, iI (wdG (sbit t g pl) (8 * nB) val beg mean 14 1 i).2) := by
  have h := lr_next (nd0 := nd0) (t := t) (ac := ac) (lc := lc) (w := w) (a := a) (co := co) (ov := ov) (ru := ru) (g := g) hpl hn0 hen htr hok hpr hval hmean 13 1 i r N 0 hr (by omega) (by omega) (by omega) hi
  unfold ex_LineReader_nextWord dk_elim
  rw [show lp_LineReader_nextWord_4 nB0 g tr N 0 (nI r) (cL nd0 (8 * pl + i) en t ac lc w a co ov ru) = _ from h]; rfl
theorem plc_le (l : Nat → Nat) {m : Nat} (hm : m ≤ 10) (v : Nat) : plc l v m ≤ 2624 := by have := plc_b l v m; omega
theorem cmN_b {k : Int} (h : 0 ≤ k) (h2 : k ≤ 2624) : 0 ≤ cmN k ∧ cmN k ≤ 2624 := by
  unfold cmN
  by_cases q0 : k = 0
  · rw [if_pos q0]; omega
  · rw [if_neg q0]
    by_cases q1 : k = 1
    · rw [if_pos q1]; omega
    · rw [if_neg q1]
      split <;> omega
/-- what the class's word for a mode is -/
def cmR (p : Nat × Int) : Nat × Int := (p.1, if 0 ≤ p.2 then cmN p.2 else p.2)
theorem lr_mode {N nB0 en : Nat} {t : Bool} {nd0 : Int32} {ac lc w : Nat} {a co ov ru : Int32} {g tr : Nat → Int32} {pl nB i : Nat} (fst : Bool) (hN : 20 < N) (hpl : pl + nB ≤ nB0) (hn0 : nB0 ≤ 65536) (hen : en = 8 * (pl + nB)) (htr : agree 1024 tr trT) (hi : i ≤ 8 * nB) : ex_LineReader_nextWord N (cL nd0 (8 * pl + i) en t ac lc w a co ov ru) nB0 g tr (nI (if fst then 0 else 1)) = some (cL nd0 (8 * pl + (mdA (sbit t g pl) (8 * nB) moWd (if fst then 10 else 9) 14 1 i).1) en t ac lc w a co ov ru, iI (cmR (mdA (sbit t g pl) (8 * nB) moWd (if fst then 10 else 9) 14 1 i)).2) := by
  cases fst with
  | true =>
    have h := lr_word (r := 0) (g := g) (t := t) (nd0 := nd0) (ac := ac) (lc := lc) (w := w) (a := a) (co := co) (ov := ov) (ru := ru) hN hpl hn0 hen htr tr_0 trP_0 (plc_le moWd (m := 10) (by omega)) (fun k => cmN_b) (by decide) hi
    rw [wdG_md] at h; exact h
  | false =>
    have h := lr_word (r := 1) (g := g) (t := t) (nd0 := nd0) (ac := ac) (lc := lc) (w := w) (a := a) (co := co) (ov := ov) (ru := ru) hN hpl hn0 hen htr tr_1 trP_1 (plc_le moWd (m := 9) (by omega)) (fun k => cmN_b) (by decide) hi
    rw [wdG_md] at h; exact h
theorem lr_end {N nB0 en : Nat} {t : Bool} {nd0 : Int32} {ac lc w : Nat} {a co ov ru : Int32} {g tr : Nat → Int32} {pl nB i : Nat} (hN : 20 < N) (hpl : pl + nB ≤ nB0) (hn0 : nB0 ≤ 65536) (hen : en = 8 * (pl + nB)) (htr : agree 1024 tr trT) (hi : i ≤ 8 * nB) : ex_LineReader_nextWord N (cL nd0 (8 * pl + i) en t ac lc w a co ov ru) nB0 g tr 2 = some (cL nd0 (8 * pl + (mdA (sbit t g pl) (8 * nB) l1N 1 14 1 i).1) en t ac lc w a co ov ru, iI (if 0 ≤ (mdA (sbit t g pl) (8 * nB) l1N 1 14 1 i).2 then 22 else (mdA (sbit t g pl) (8 * nB) l1N 1 14 1 i).2)) := by
  have h := lr_word (r := 2) (g := g) (t := t) (nd0 := nd0) (ac := ac) (lc := lc) (w := w) (a := a) (co := co) (ov := ov) (ru := ru) hN hpl hn0 hen htr tr_2 trP_2 (plc_le l1N (m := 1) (by omega)) (fun k _ _ => by omega) (by decide) hi
  rw [wdG_md] at h; exact h
theorem lr_run {N nB0 en : Nat} {t c : Bool} {nd0 : Int32} {ac lc w : Nat} {a co ov ru : Int32} {g tr : Nat → Int32} {pl nB i : Nat} (hN : 20 < N) (hpl : pl + nB ≤ nB0) (hn0 : nB0 ≤ 65536) (hen : en = 8 * (pl + nB)) (htr : agree 1024 tr trT) (hi : i ≤ 8 * nB) : ex_LineReader_nextWord N (cL nd0 (8 * pl + i) en t ac lc w a co ov ru) nB0 g tr (nI (if c then 4 else 3)) = some (cL nd0 (8 * pl + (rnA (sbit t g pl) (8 * nB) (if c then brWd else wrWd) (if c then bbWd else wbWd) lbWd 14 1 i).1) en t ac lc w a co ov ru, iI (rnA (sbit t g pl) (8 * nB) (if c then brWd else wrWd) (if c then bbWd else wbWd) lbWd 14 1 i).2) := by
  cases c with
  | true =>
    have h := lr_word (r := 4) (g := g) (t := t) (nd0 := nd0) (ac := ac) (lc := lc) (w := w) (a := a) (co := co) (ov := ov) (ru := ru) hN hpl hn0 hen htr tr_4 trP_4 (fun v => (rnV_b _ _ _ v).2.1) (fun k h1 h2 => ⟨h1, h2⟩) (by decide) hi
    rw [wdG_rn] at h; exact h
  | false =>
    have h := lr_word (r := 3) (g := g) (t := t) (nd0 := nd0) (ac := ac) (lc := lc) (w := w) (a := a) (co := co) (ov := ov) (ru := ru) hN hpl hn0 hen htr tr_3 trP_3 (fun v => (rnV_b _ _ _ v).2.1) (fun k h1 h2 => ⟨h1, h2⟩) (by decide) hi
    rw [wdG_rn] at h; exact h
theorem lr_rl {N nB0 en : Nat} {t c : Bool} {nd0 : Int32} {ac lc w : Nat} {a co ov : Int32} {g tr : Nat → Int32} {pl nB x0 : Nat} (hN : 20 < N) (hw : w ≤ 10000) (hx : x0 ≤ w) (hpl : pl + nB ≤ nB0) (hn0 : nB0 ≤ 65536) (hen : en = 8 * (pl + nB)) (htr : agree 1024 tr trT) : ∀ (k s i n j : Nat), x0 + s ≤ w → w < x0 + s + 64 * k → 64 * j ≤ s → k < n → i ≤ 8 * nB → lp_LineReader_readRun_7 N tr nB0 g (nI x0) (nI c.toNat) n (nI j) (cL nd0 (8 * pl + i) en t ac lc w a co ov (nI s)) = some (Sum.inr (cL nd0 (8 * pl + (rrA (sbit t g pl) (8 * nB) (if c then brWd else wrWd) (if c then bbWd else wbWd) lbWd w x0 k s i).1) en t ac lc w a co ov (nI (rrA (sbit t g pl) (8 * nB) (if c then brWd else wrWd) (if c then bbWd else wbWd) lbWd w x0 k s i).2.1), nI (rrA (sbit t g pl) (8 * nB) (if c then brWd else wrWd) (if c then bbWd else wbWd) lbWd w x0 k s i).2.2)) := by
  intro k
  induction k with
  | zero => intro s i n j hs hk; exact absurd hk (by omega)
  | succ k ih =>
    intro s i n j hs hk hj hn hi
    obtain ⟨n, rfl⟩ : ∃ z, n = z + 1 := ⟨n - 1, by omega⟩
    have hA := rnA_b (sbit t g pl) (8 * nB) (if c then brWd else wrWd) (if c then bbWd else wbWd) lbWd 14 1 i hi
    rw [lp_LineReader_readRun_7, rrA]
    refine (if_neg (show ¬ nI w < nI j from nI_nlt (by omega) (by omega))).trans ?_
    have hword := lr_run (c := c) (g := g) (t := t) (nd0 := nd0) (ac := ac) (lc := lc) (w := w) (a := a) (co := co) (ov := ov) (ru := nI s) hN hpl hn0 hen htr hi
    obtain ⟨A, hAe⟩ : ∃ A, A = rnA (sbit t g pl) (8 * nB) (if c then brWd else wrWd) (if c then bbWd else wbWd) lbWd 14 1 i := ⟨_, rfl⟩
    rw [← hAe] at hA hword ⊢
    have hbody : (if (0 : Int32) ≤ iI A.2 then (if nI x0 + (nI s + iI A.2) ≤ nI w then (if (64 : Int32) ≤ iI A.2 then lp_LineReader_readRun_7 N tr nB0 g (nI x0) (nI c.toNat) n (nI j + 1) (cL nd0 (8 * pl + A.1) en t ac lc w a co ov (nI s + iI A.2)) else some (Sum.inr (cL nd0 (8 * pl + A.1) en t ac lc w a co ov (nI s + iI A.2), 0))) else some (Sum.inr (cL nd0 (8 * pl + A.1) en t ac lc w a co ov (nI s + iI A.2), 5))) else some (Sum.inr (cL nd0 (8 * pl + A.1) en t ac lc w a co ov (nI s), -iI A.2))) = some (Sum.inr (cL nd0 (8 * pl + (if A.2 < 0 then (A.1, s, fC A.2) else if w < x0 + (s + A.2.toNat) then (A.1, s + A.2.toNat, 5) else if A.2 < 64 then (A.1, s + A.2.toNat, 0) else rrA (sbit t g pl) (8 * nB) (if c then brWd else wrWd) (if c then bbWd else wbWd) lbWd w x0 k (s + A.2.toNat) A.1).1) en t ac lc w a co ov (nI (if A.2 < 0 then (A.1, s, fC A.2) else if w < x0 + (s + A.2.toNat) then (A.1, s + A.2.toNat, 5) else if A.2 < 64 then (A.1, s + A.2.toNat, 0) else rrA (sbit t g pl) (8 * nB) (if c then brWd else wrWd) (if c then bbWd else wbWd) lbWd w x0 k (s + A.2.toNat) A.1).2.1), nI (if A.2 < 0 then (A.1, s, fC A.2) else if w < x0 + (s + A.2.toNat) then (A.1, s + A.2.toNat, 5) else if A.2 < 64 then (A.1, s + A.2.toNat, 0) else rrA (sbit t g pl) (8 * nB) (if c then brWd else wrWd) (if c then bbWd else wbWd) lbWd w x0 k (s + A.2.toNat) A.1).2.2)) := by
      by_cases q1 : A.2 < 0
      · rw [if_pos q1, if_neg (show ¬ (0 : Int32) ≤ iI A.2 from mt (iI_le (a := 0) (by omega) (by omega)).mp (by omega))]
        have : -iI A.2 = nI (fC A.2) := by
          have : A.2 = -1 ∨ A.2 = -2 := by omega
          rcases this with e | e <;> rw [e] <;> rfl
        rw [this]
      · obtain ⟨x, hxa⟩ : ∃ x : Nat, A.2 = x := ⟨A.2.toNat, by omega⟩
        have e1 : iI A.2 = nI x := by rw [hxa]; rfl
        have e2 : A.2.toNat = x := by omega
        have e3 : nI x0 + (nI s + nI x) = nI (x0 + (s + x)) := by rw [nI_add, nI_add]
        rw [if_neg q1, e1, e2, if_pos (show (0 : Int32) ≤ nI x from nI_le (a := 0) (by omega) (by omega)), e3, nI_add]
        by_cases q2 : w < x0 + (s + x)
        · rw [if_pos q2, if_neg (nI_ge q2 (by omega))]; rfl
        · rw [if_neg q2, if_pos (nI_le (by omega) (by omega))]
          by_cases q3 : A.2 < 64
          · rw [if_pos q3, if_neg (show ¬ (64 : Int32) ≤ nI x from nI_ge (b := 64) (by omega) (by omega))]; rfl
          · rw [if_neg q3, if_pos (show (64 : Int32) ≤ nI x from nI_le (a := 64) (by omega) (by omega)), nI_1]
            exact ih (s + x) A.1 n (j + 1) (by omega) (by omega) (by omega) (by omega) (by omega)
    cases c with
    | false =>
      refine (if_pos (show nI false.toNat = 0 from rfl)).trans ?_
      refine (bind_eq hword).trans ?_
      exact hbody
    | true =>
      refine (if_neg (show ¬ nI true.toNat = 0 by decide)).trans ?_
      refine (bind_eq hword).trans ?_
      exact hbody
/-- a run is read by the class -/
theorem lr_readRun {N nB0 en : Nat} {t c : Bool} {nd0 : Int32} {ac lc w : Nat} {a co ov ru : Int32} {g tr : Nat → Int32} {pl nB x0 i : Nat} (hN : 300 < N) (hw : w ≤ 10000) (hx : x0 ≤ w) (hpl : pl + nB ≤ nB0) (hn0 : nB0 ≤ 65536) (hen : en = 8 * (pl + nB)) (htr : agree 1024 tr trT) (hi : i ≤ 8 * nB) : ex_LineReader_readRun N (cL nd0 (8 * pl + i) en t ac lc w a co ov ru) tr nB0 g (nI x0) (nI c.toNat) = some (cL nd0 (8 * pl + (rrA (sbit t g pl) (8 * nB) (if c then brWd else wrWd) (if c then bbWd else wbWd) lbWd w x0 200 0 i).1) en t ac lc w a co ov (nI (rrA (sbit t g pl) (8 * nB) (if c then brWd else wrWd) (if c then bbWd else wbWd) lbWd w x0 200 0 i).2.1), nI (rrA (sbit t g pl) (8 * nB) (if c then brWd else wrWd) (if c then bbWd else wbWd) lbWd w x0 200 0 i).2.2) := by
  have h := lr_rl (N := N) (c := c) (g := g) (t := t) (nd0 := nd0) (ac := ac) (lc := lc) (a := a) (co := co) (ov := ov) (by omega) hw hx hpl hn0 hen htr 200 0 i N 0 (by omega) (by omega) (by omega) (by omega) hi
  unfold ex_LineReader_readRun dk_elim
  rw [show lp_LineReader_readRun_7 N tr nB0 g (nI x0) (nI c.toNat) N 0 (fs_LineReader_run (cL nd0 (8 * pl + i) en t ac lc w a co ov ru) 0) = _ from h]; rfl
def b1A (w : Nat) (up : Nat → Bool) (s : Nat) (c : Bool) : Nat := fnd (chP up !c) (w - s) s
def b2A (w : Nat) (up : Nat → Bool) (s : Nat) (c : Bool) : Nat := if b1A w up s c = w then w else fnd (fun x => up x == c) (w - (b1A w up s c + 1)) (b1A w up s c + 1)
def runA (bit : Nat → Bool) (nb w : Nat) (c : Bool) (x0 i : Nat) : Nat × Nat × Nat := rrA bit nb (if c then brWd else wrWd) (if c then bbWd else wbWd) lbWd w x0 200 0 i
/-- a piece of a line, behind its mode m: where it ends, its fault, a + 1, the colour, the middle -/
def pcB (bit : Nat → Bool) (nb w : Nat) (up : Nat → Bool) (s : Nat) (c : Bool) (m : Nat × Int) : Nat × Nat × Nat × Bool × Nat :=
  if m.2 < 0 then (m.1, fC m.2, s, c, 0) else
  if m.2 = 1 then
    (if (runA bit nb w c (s - 1) m.1).2.2 = 0 then
      (if (runA bit nb w (!c) (s - 1 + (runA bit nb w c (s - 1) m.1).2.1) (runA bit nb w c (s - 1) m.1).1).2.2 = 0 then
        (if (runA bit nb w c (s - 1) m.1).2.1 + (runA bit nb w (!c) (s - 1 + (runA bit nb w c (s - 1) m.1).2.1) (runA bit nb w c (s - 1) m.1).1).2.1 = 0 then ((runA bit nb w (!c) (s - 1 + (runA bit nb w c (s - 1) m.1).2.1) (runA bit nb w c (s - 1) m.1).1).1, 6, s, c, 0)
        else ((runA bit nb w (!c) (s - 1 + (runA bit nb w c (s - 1) m.1).2.1) (runA bit nb w c (s - 1) m.1).1).1, 0, s - 1 + (runA bit nb w c (s - 1) m.1).2.1 + (runA bit nb w (!c) (s - 1 + (runA bit nb w c (s - 1) m.1).2.1) (runA bit nb w c (s - 1) m.1).1).2.1 + 1, c, s - 1 + (runA bit nb w c (s - 1) m.1).2.1))
      else ((runA bit nb w (!c) (s - 1 + (runA bit nb w c (s - 1) m.1).2.1) (runA bit nb w c (s - 1) m.1).1).1, (runA bit nb w (!c) (s - 1 + (runA bit nb w c (s - 1) m.1).2.1) (runA bit nb w c (s - 1) m.1).1).2.2, s, c, 0))
    else ((runA bit nb w c (s - 1) m.1).1, (runA bit nb w c (s - 1) m.1).2.2, s, c, 0)) else
  if m.2 = 0 then (if b2A w up s c = w then (m.1, 3, s, c, 0) else (m.1, 0, b2A w up s c + 1, c, b2A w up s c)) else
  if (b1A w up s c : Int) + m.2 - 5 < s ∨ (w : Int) < b1A w up s c + m.2 - 5 then (m.1, 4, s, c, 0) else (m.1, 0, ((b1A w up s c : Int) + m.2 - 5).toNat + 1, !c, ((b1A w up s c : Int) + m.2 - 5).toNat)
def modA (bit : Nat → Bool) (nb s i : Nat) : Nat × Int := mdA bit nb moWd (if s = 0 then 10 else 9) 14 1 i
def endA (bit : Nat → Bool) (nb i : Nat) : Nat × Int := mdA bit nb l1N 1 14 1 i
def pcA (bit : Nat → Bool) (nb w : Nat) (up : Nat → Bool) (s : Nat) (c : Bool) (i : Nat) : Nat × Nat × Nat × Bool × Nat :=
  if (modA bit nb s i).2 = 9 then ((endA bit nb (modA bit nb s i).1).1, if (endA bit nb (modA bit nb s i).1).2 < 0 then fC (endA bit nb (modA bit nb s i).1).2 else 7, s, c, 0) else pcB bit nb w up s c (modA bit nb s i)
theorem rrA_b (bit : Nat → Bool) (nb : Nat) (lr lo lb : Nat → Nat) (w x0 : Nat) : ∀ k s i, i ≤ nb → x0 + s ≤ w → i ≤ (rrA bit nb lr lo lb w x0 k s i).1 ∧ (rrA bit nb lr lo lb w x0 k s i).1 ≤ nb ∧ (rrA bit nb lr lo lb w x0 k s i).2.2 ≤ 5 ∧ (rrA bit nb lr lo lb w x0 k s i).2.1 ≤ w + 2624 ∧ ((rrA bit nb lr lo lb w x0 k s i).2.2 = 0 → x0 + (rrA bit nb lr lo lb w x0 k s i).2.1 ≤ w) := by
  intro k
  induction k with
  | zero => intro s i hi hs; exact ⟨Nat.le_refl _, hi, by show 0 ≤ 5; omega, by show s ≤ w + 2624; omega, fun _ => hs⟩
  | succ k ih =>
    intro s i hi hs
    have hA := rnA_b bit nb lr lo lb 14 1 i hi
    rw [rrA]
    have hfc : fC (rnA bit nb lr lo lb 14 1 i).2 ≤ 2 := by unfold fC; split; omega; split <;> omega
    by_cases q1 : (rnA bit nb lr lo lb 14 1 i).2 < 0
    · rw [if_pos q1]
      refine ⟨hA.1, hA.2.1, by show fC _ ≤ 5; omega, by show s ≤ w + 2624; omega, fun _ => hs⟩
    · rw [if_neg q1]
      by_cases q2 : w < x0 + (s + (rnA bit nb lr lo lb 14 1 i).2.toNat)
      · rw [if_pos q2]
        exact ⟨hA.1, hA.2.1, by show 5 ≤ 5; omega, by show s + _ ≤ w + 2624; omega, fun h => absurd h (by show ¬ 5 = 0; omega)⟩
      · rw [if_neg q2]
        by_cases q3 : (rnA bit nb lr lo lb 14 1 i).2 < 64
        · rw [if_pos q3]
          exact ⟨hA.1, hA.2.1, by show 0 ≤ 5; omega, by show s + _ ≤ w + 2624; omega, fun _ => by show x0 + (s + _) ≤ w; omega⟩
        · rw [if_neg q3]
          have := ih (s + (rnA bit nb lr lo lb 14 1 i).2.toNat) (rnA bit nb lr lo lb 14 1 i).1 hA.2.1 (by omega)
          exact ⟨by omega, this.2⟩
theorem aI_ge {s : Nat} (hs : s < 2 ^ 30) : (0 : Int32) ≤ nI s - 1 ↔ 1 ≤ s := by
  rw [Int32.le_iff_toInt_le, show (1 : Int32) = nI 1 from rfl, nI_sub_toInt (by omega) (by omega)]
  have : (0 : Int32).toInt = 0 := rfl
  omega
theorem ml_lfill {c : Bool} {to : Nat} (hto : to ≤ 10000) : ∀ (m n k : Nat) (g : Nat → Int32), to - k = m → m < n → k ≤ 10000 → ∃ g', lp_mLines_fill_11 (nI to) (nI c.toNat) n (nI k) g = some g' ∧ ∀ x, g' x = if k ≤ x ∧ x < to then nI c.toNat else g x := by
  intro m
  induction m with
  | zero =>
    intro n k g hm hn hk
    obtain ⟨n, rfl⟩ : ∃ q, n = q + 1 := ⟨n - 1, by omega⟩
    refine ⟨g, by rw [lp_mLines_fill_11, if_pos (nI_le (by omega) (by omega))], fun x => by rw [if_neg (by omega)]⟩
  | succ m ih =>
    intro n k g hm hn hk
    obtain ⟨n, rfl⟩ : ∃ q, n = q + 1 := ⟨n - 1, by omega⟩
    obtain ⟨g', h1, h2⟩ := ih n (k + 1) (upd g k (nI c.toNat)) (by omega) (by omega) (by omega)
    refine ⟨g', ?_, fun x => ?_⟩
    · rw [lp_mLines_fill_11, if_neg (nI_ge (by omega) (by omega)), if_pos (dk_in_nI (by omega) (by omega)), nI_clamp (by omega), nI_1, nar_bool]
      exact h1
    · rw [h2 x]
      unfold upd
      by_cases q : x = k
      · rw [if_neg (by omega), if_pos q, if_pos (by omega)]
      · rw [if_neg q]
        by_cases q2 : k ≤ x ∧ x < to
        · rw [if_pos q2, if_pos (by omega)]
        · rw [if_neg q2, if_neg (by omega)]
theorem ml_fill {N st to : Nat} {c : Bool} {o : ob_mLines} {g : Nat → Int32} {v0 : Int32} (hN : 10000 < N) (hto : to ≤ 10000) (hst : st ≤ 10000) (hv : v0 = nI st ∨ (v0 = -1 ∧ st = 0)) : ∃ g', ex_mLines_fill N o g v0 (nI to) (nI c.toNat) = some g' ∧ ∀ x, g' x = if st ≤ x ∧ x < to then nI c.toNat else g x := by
  obtain ⟨g', h1, h2⟩ := ml_lfill (c := c) hto (to - st) N st g rfl (by omega) hst
  refine ⟨g', ?_, h2⟩
  unfold ex_mLines_fill
  rcases hv with q | ⟨q, q2⟩
  · rw [q, if_pos (show (0 : Int32) ≤ nI st from nI_le (a := 0) (by omega) (by omega)), h1]; rfl
  · rw [q, if_neg (by decide), show lp_mLines_fill_11 (nI to) (nI c.toNat) N 0 g = some g' from by rw [q2] at h1; exact h1]; rfl
/-- the reference's words as the class's -/
def rdT (wr br wb bb gb gm : Nat → Int32) : Prop := wdA 64 wr wrWd ∧ wdA 64 br brWd ∧ wdA 27 wb wbWd ∧ wdA 27 bb bbWd ∧ wdA 13 gb lbWd ∧ wdA 10 gm moWd
/-- what a piece leaves in the reference -/
def pcO (w pl nB : Nat) (b : Int64) (t c : Bool) (s : Nat) (gl : Nat → Int32) (R : Nat × Nat × Nat × Bool × Nat) (u : Option rs_mLines_piece) : Prop := ∃ (tu' x : Int32) (gl' : Nat → Int32), u = some (rL w b pl nB t R.1 (if R.2.1 = 7 then 0 else R.2.1) (if R.2.1 = 7 then 1 else 0) tu', gl', x) ∧ (R.2.1 = 0 → tu' = nI (decide (R.2.2.2.1 ≠ c)).toNat ∧ x = nI R.2.2.1 - 1 ∧ ∀ y, gl' y = if s - 1 ≤ y ∧ y < R.2.2.2.2 then nI c.toNat else if R.2.2.2.2 ≤ y ∧ y < R.2.2.1 - 1 then nI (!c).toNat else gl y)
theorem pc_fin {N w pl nB i s : Nat} {b : Int64} {t c : Bool} {gl : Nat → Int32} {m : Nat × Int} (hN : 20000 < N) (hw : w ≤ 10000) (hs : s ≤ w) (hm0 : 0 ≤ m.2) (hm1 : m.2 ≠ 1) (hm9 : m.2 ≤ 8) {u2 : rs_mLines_mode} (hu : u2.2 = iI m.2) (b1 b2 : Nat) (hb1 : s ≤ b1 ∧ b1 ≤ w) (hb2 : b1 ≤ b2 ∧ b2 ≤ w) :
    pcO w pl nB b t c s gl (if m.2 = 0 then (if b2 = w then (i, 3, s, c, 0) else (i, 0, b2 + 1, c, b2)) else if (b1 : Int) + m.2 - 5 < s ∨ (w : Int) < b1 + m.2 - 5 then (i, 4, s, c, 0) else (i, 0, ((b1 : Int) + m.2 - 5).toNat + 1, !c, ((b1 : Int) + m.2 - 5).toNat)) (if u2.2 = (0 : Int32) then jn_mLines_piece_263g6 N gl (nI s - 1) (nI c.toNat) u2 (nI b2) (rL w b pl nB t i 0 0 0) (nI b2) else jn_mLines_piece_263g6 N gl (nI s - 1) (nI c.toNat) u2 (nI b2) (rL w b pl nB t i 0 0 0) ((nI b1 + u2.2) - 5)) := by
  have hv : nI s - 1 = nI (s - 1) ∨ (nI s - 1 = -1 ∧ s - 1 = 0) := by
    by_cases q : s = 0
    · right; subst q; exact ⟨by decide, rfl⟩
    · left; exact nI_sub (b := 1) (by omega)
  have hz : u2.2 = 0 ↔ m.2 = 0 := by rw [hu]; exact iI_eq (b := 0) (by omega) (by omega)
  have h1 : u2.2 ≤ 1 ↔ m.2 ≤ 1 := by rw [hu]; exact iI_le (b := 1) (by omega) (by omega)
  unfold jn_mLines_piece_263g6
  by_cases q0 : m.2 = 0
  · rw [if_pos (hz.mpr q0), if_pos (hz.mpr q0), if_pos q0]
    by_cases q1 : b2 = w
    · rw [if_pos q1]
      refine ⟨0, nI b2, gl, ?_, fun h => absurd h (by show ¬ 3 = 0; omega)⟩
      refine (if_pos (show nI b2 = nI w by rw [q1])).trans ?_
      unfold jn_mLines_piece_308h7
      rw [if_neg (show ¬ (3 : Int32) = 0 by decide)]
      unfold jn_mLines_piece_326i8
      rw [if_pos (h1.mpr (by omega))]
      rfl
    · rw [if_neg q1]
      obtain ⟨g', e1, e2⟩ := ml_fill (N := N) (st := s - 1) (to := b2) (c := c) (o := fs_mLines_fault (rL w b pl nB t i 0 0 0) 0) (g := gl) (v0 := nI s - 1) (by omega) (by omega) (by omega) hv
      refine ⟨0, nI b2, g', ?_, fun _ => ⟨?_, ?_, fun y => ?_⟩⟩
      · refine (if_neg (show ¬ nI b2 = nI w from mt (nI_eq (by omega) (by omega)).mp q1)).trans ?_
        unfold jn_mLines_piece_283k10
        rw [if_pos (h1.mpr (by omega))]
        unfold jn_mLines_piece_307l11 jn_mLines_piece_308h7
        rw [if_pos rfl]
        refine (bind_eq e1).trans ?_
        unfold jn_mLines_piece_326i8
        rw [if_pos (h1.mpr (by omega))]
        rfl
      · show (0 : Int32) = nI (decide (c ≠ c)).toNat
        rw [decide_eq_false (fun h => h rfl)]; rfl
      · show nI b2 = nI (b2 + 1) - 1
        exact (nI_sub (a := b2 + 1) (b := 1) (by omega)).symm
      · rw [e2 y]
        show _ = if s - 1 ≤ y ∧ y < b2 then nI c.toNat else if b2 ≤ y ∧ y < b2 + 1 - 1 then _ else gl y
        by_cases q : s - 1 ≤ y ∧ y < b2
        · rw [if_pos q, if_pos q]
        · rw [if_neg q, if_neg q, if_neg (by omega)]
  · rw [if_neg (mt hz.mp q0), if_neg q0, if_neg (mt hz.mp q0)]
    have hto : (nI b1 + u2.2) - 5 = iI ((b1 : Int) + m.2 - 5) := by
      rw [hu, nI_iI, iI_add, show (5 : Int32) = iI 5 from rfl, iI_sub]
    unfold jn_mLines_piece_283k10
    rw [if_neg (mt h1.mp (by omega)), hto]
    have hle : iI ((b1 : Int) + m.2 - 5) ≤ nI s - 1 ↔ (b1 : Int) + m.2 - 5 < s := by
      rw [Int32.le_iff_toInt_le, iI_toInt (by omega), show (1 : Int32) = nI 1 from rfl, nI_sub_toInt (by omega) (by omega)]; omega
    have hle2 : iI ((b1 : Int) + m.2 - 5) ≤ nI w ↔ (b1 : Int) + m.2 - 5 ≤ w := by rw [nI_iI]; exact iI_le (by omega) (by omega)
    have hfour : ∀ x, jn_mLines_piece_303m12 N gl (nI s - 1) (nI c.toNat) (rL w b pl nB t i 0 0 0) x u2 = some (rL w b pl nB t i 4 0 1, gl, x) := by
      intro x
      unfold jn_mLines_piece_303m12 jn_mLines_piece_308h7
      rw [if_neg (show ¬ (4 : Int32) = 0 by decide)]
      unfold jn_mLines_piece_326i8
      rw [if_neg (mt h1.mp (by omega))]
      rfl
    by_cases q1 : (b1 : Int) + m.2 - 5 < s
    · rw [if_pos (hle.mpr q1), if_pos (Or.inl q1)]
      exact ⟨1, iI ((b1 : Int) + m.2 - 5), gl, hfour _, fun h => absurd h (by show ¬ 4 = 0; omega)⟩
    · rw [if_neg (mt hle.mp q1)]
      by_cases q2 : (w : Int) < b1 + m.2 - 5
      · rw [if_pos (Or.inr q2)]
        refine ⟨1, iI ((b1 : Int) + m.2 - 5), gl, ?_, fun h => absurd h (by show ¬ 4 = 0; omega)⟩
        exact (if_neg (mt hle2.mp (by omega))).trans (hfour _)
      · rw [if_neg (by omega)]
        obtain ⟨z, hz2⟩ : ∃ z : Nat, (b1 : Int) + m.2 - 5 = z := ⟨((b1 : Int) + m.2 - 5).toNat, by omega⟩
        rw [hz2]
        have ez : iI (z : Int) = nI z := rfl
        have et : (z : Int).toNat = z := by omega
        rw [ez, et]
        obtain ⟨g', e1, e2⟩ := ml_fill (N := N) (st := s - 1) (to := z) (c := c) (o := fs_mLines_fault (rL w b pl nB t i 0 0 0) 0) (g := gl) (v0 := nI s - 1) (by omega) (by omega) (by omega) hv
        refine ⟨1, nI z, g', ?_, fun _ => ⟨?_, ?_, fun y => ?_⟩⟩
        · refine (if_pos (show nI z ≤ nI w from nI_le (by omega) (by omega))).trans ?_
          unfold jn_mLines_piece_307l11 jn_mLines_piece_308h7
          rw [if_pos rfl]
          refine (bind_eq e1).trans ?_
          unfold jn_mLines_piece_326i8
          rw [if_neg (mt h1.mp (by omega))]
          rfl
        · show (1 : Int32) = nI (decide ((!c) ≠ c)).toNat
          rw [decide_eq_true (by cases c <;> decide)]; rfl
        · show nI z = nI (z + 1) - 1
          exact (nI_sub (a := z + 1) (b := 1) (by omega)).symm
        · rw [e2 y]
          show _ = if s - 1 ≤ y ∧ y < z then nI c.toNat else if z ≤ y ∧ y < z + 1 - 1 then _ else gl y
          by_cases q : s - 1 ≤ y ∧ y < z
          · rw [if_pos q, if_pos q]
          · rw [if_neg q, if_neg q, if_neg (by omega)]
theorem pc_acr {N w pl nB i s : Nat} {b : Int64} {t c : Bool} {g gl wr br wb bb gb gm : Nat → Int32} (hN : 20000 < N) (hw : w ≤ 10000) (hpl : pl + nB ≤ 65536) (hT : rdT wr br wb bb gb gm) (hs : s ≤ w) (hi : i ≤ 8 * nB) :
    pcO w pl nB b t c s gl (if (runA (sbit t g pl) (8 * nB) w c (s - 1) i).2.2 = 0 then
      (if (runA (sbit t g pl) (8 * nB) w (!c) (s - 1 + (runA (sbit t g pl) (8 * nB) w c (s - 1) i).2.1) (runA (sbit t g pl) (8 * nB) w c (s - 1) i).1).2.2 = 0 then
        (if (runA (sbit t g pl) (8 * nB) w c (s - 1) i).2.1 + (runA (sbit t g pl) (8 * nB) w (!c) (s - 1 + (runA (sbit t g pl) (8 * nB) w c (s - 1) i).2.1) (runA (sbit t g pl) (8 * nB) w c (s - 1) i).1).2.1 = 0 then ((runA (sbit t g pl) (8 * nB) w (!c) (s - 1 + (runA (sbit t g pl) (8 * nB) w c (s - 1) i).2.1) (runA (sbit t g pl) (8 * nB) w c (s - 1) i).1).1, 6, s, c, 0)
        else ((runA (sbit t g pl) (8 * nB) w (!c) (s - 1 + (runA (sbit t g pl) (8 * nB) w c (s - 1) i).2.1) (runA (sbit t g pl) (8 * nB) w c (s - 1) i).1).1, 0, s - 1 + (runA (sbit t g pl) (8 * nB) w c (s - 1) i).2.1 + (runA (sbit t g pl) (8 * nB) w (!c) (s - 1 + (runA (sbit t g pl) (8 * nB) w c (s - 1) i).2.1) (runA (sbit t g pl) (8 * nB) w c (s - 1) i).1).2.1 + 1, c, s - 1 + (runA (sbit t g pl) (8 * nB) w c (s - 1) i).2.1))
      else ((runA (sbit t g pl) (8 * nB) w (!c) (s - 1 + (runA (sbit t g pl) (8 * nB) w c (s - 1) i).2.1) (runA (sbit t g pl) (8 * nB) w c (s - 1) i).1).1, (runA (sbit t g pl) (8 * nB) w (!c) (s - 1 + (runA (sbit t g pl) (8 * nB) w c (s - 1) i).2.1) (runA (sbit t g pl) (8 * nB) w c (s - 1) i).1).2.2, s, c, 0))
    else ((runA (sbit t g pl) (8 * nB) w c (s - 1) i).1, (runA (sbit t g pl) (8 * nB) w c (s - 1) i).2.2, s, c, 0)) (jn_mLines_piece_124n13 N 65536 g gl wr br wb bb gb (nI c.toNat) (rL w b pl nB t i 0 0 0) (nI (s - 1))) := by
  obtain ⟨t1, t2, t3, t4, t5, t6⟩ := hT
  have r1 := ml_run (N := N) (w := w) (b := b) (t := t) (c := c) (en := 0) (tu := 0) (g := g) (x0 := s - 1) (by omega) hw (by omega) hpl t1 t3 t5 t2 t4 hi
  have b1 := rrA_b (sbit t g pl) (8 * nB) (if c then brWd else wrWd) (if c then bbWd else wbWd) lbWd w (s - 1) 200 0 i hi (by omega)
  have e0 : runA (sbit t g pl) (8 * nB) w c (s - 1) i = rrA (sbit t g pl) (8 * nB) (if c then brWd else wrWd) (if c then bbWd else wbWd) lbWd w (s - 1) 200 0 i := rfl
  rw [← e0] at r1 b1
  obtain ⟨R1, hR1⟩ : ∃ R, R = runA (sbit t g pl) (8 * nB) w c (s - 1) i := ⟨_, rfl⟩
  rw [← hR1] at r1 b1 ⊢
  unfold jn_mLines_piece_124n13
  rw [r1, Option.bind_some]
  by_cases q1 : R1.2.2 = 0
  · rw [if_pos q1]
    refine Eq.mpr (congrArg (pcO w pl nB b t c s gl _) (if_pos (show nI R1.2.2 = 0 by rw [q1]; rfl))) ?_
    have r2 := ml_run (N := N) (w := w) (b := b) (t := t) (c := !c) (en := 0) (tu := 0) (g := g) (x0 := s - 1 + R1.2.1) (i := R1.1) (by omega) hw (b1.2.2.2.2 q1) hpl t1 t3 t5 t2 t4 b1.2.1
    have b2 := rrA_b (sbit t g pl) (8 * nB) (if !c then brWd else wrWd) (if !c then bbWd else wbWd) lbWd w (s - 1 + R1.2.1) 200 0 R1.1 b1.2.1 (b1.2.2.2.2 q1)
    have e1 : runA (sbit t g pl) (8 * nB) w (!c) (s - 1 + R1.2.1) R1.1 = rrA (sbit t g pl) (8 * nB) (if !c then brWd else wrWd) (if !c then bbWd else wbWd) lbWd w (s - 1 + R1.2.1) 200 0 R1.1 := rfl
    rw [← e1] at r2 b2
    obtain ⟨R2, hR2⟩ : ∃ R, R = runA (sbit t g pl) (8 * nB) w (!c) (s - 1 + R1.2.1) R1.1 := ⟨_, rfl⟩
    rw [← hR2] at r2 b2 ⊢
    have hsum : nI (s - 1) + nI R1.2.1 = nI (s - 1 + R1.2.1) := nI_add _ _
    have hcall : (if nI c.toNat = 0 then jn_mLines_piece_157t19 N 65536 g gl wr br wb bb gb (nI c.toNat) (rL w b pl nB t R1.1 R1.2.2 0 0, nI R1.2.1) (nI (s - 1)) 1 else jn_mLines_piece_157t19 N 65536 g gl wr br wb bb gb (nI c.toNat) (rL w b pl nB t R1.1 R1.2.2 0 0, nI R1.2.1) (nI (s - 1)) 0) = jn_mLines_piece_164o14 N gl (nI c.toNat) (rL w b pl nB t R1.1 R1.2.2 0 0, nI R1.2.1) (nI (s - 1)) (nI R2.2.1) (rL w b pl nB t R2.1 R2.2.2 0 0) := by
      have hgo : jn_mLines_piece_157t19 N 65536 g gl wr br wb bb gb (nI c.toNat) (rL w b pl nB t R1.1 R1.2.2 0 0, nI R1.2.1) (nI (s - 1)) (nI (!c).toNat) = jn_mLines_piece_164o14 N gl (nI c.toNat) (rL w b pl nB t R1.1 R1.2.2 0 0, nI R1.2.1) (nI (s - 1)) (nI R2.2.1) (rL w b pl nB t R2.1 R2.2.2 0 0) := by
        unfold jn_mLines_piece_157t19
        show (ex_mLines_readRun N (rL w b pl nB t R1.1 R1.2.2 0 0) wr wb 65536 g gb bb br (nI (s - 1) + nI R1.2.1) (nI (!c).toNat)).bind _ = _
        rw [hsum, q1, r2]; rfl
      cases c with
      | false => rw [if_pos (show nI false.toNat = 0 from rfl)]; exact hgo
      | true => rw [if_neg (show ¬ nI true.toNat = 0 by decide)]; exact hgo
    refine Eq.mpr (congrArg (pcO w pl nB b t c s gl _) hcall) ?_
    unfold jn_mLines_piece_164o14
    by_cases q2 : R2.2.2 = 0
    · rw [if_pos q2]
      refine Eq.mpr (congrArg (pcO w pl nB b t c s gl _) (if_pos (show nI R2.2.2 = 0 by rw [q2]; rfl))) ?_
      have hs2 : nI R1.2.1 + nI R2.2.1 = nI (R1.2.1 + R2.2.1) := nI_add _ _
      have hz : nI R1.2.1 + nI R2.2.1 = 0 ↔ R1.2.1 + R2.2.1 = 0 := by rw [hs2]; exact nI_eq (b := 0) (by omega) (by omega)
      by_cases q3 : R1.2.1 + R2.2.1 = 0
      · rw [if_pos q3]
        refine Eq.mpr (congrArg (pcO w pl nB b t c s gl _) (if_pos (hz.mpr q3))) ?_
        refine ⟨0, (nI (s - 1) + nI R1.2.1) + nI R2.2.1, gl, ?_, fun h => absurd h (by show ¬ 6 = 0; omega)⟩
        unfold jn_mLines_piece_191p15
        rw [if_neg (show ¬ (6 : Int32) = 0 by decide)]
        rfl
      · rw [if_neg q3]
        refine Eq.mpr (congrArg (pcO w pl nB b t c s gl _) (if_neg (mt hz.mp q3))) ?_
        have bb1 := b1.2.2.2.2 q1
        have bb2 := b2.2.2.2.2 q2
        obtain ⟨g1, f1, f2⟩ := ml_fill (N := N) (st := s - 1) (to := s - 1 + R1.2.1) (c := c) (o := fs_mLines_fault (rL w b pl nB t R2.1 R2.2.2 0 0) (nI R2.2.2)) (g := gl) (v0 := nI (s - 1)) (by omega) (by omega) (by omega) (Or.inl rfl)
        obtain ⟨g2, f3, f4⟩ := ml_fill (N := N) (st := s - 1 + R1.2.1) (to := s - 1 + R1.2.1 + R2.2.1) (c := !c) (o := fs_mLines_fault (rL w b pl nB t R2.1 R2.2.2 0 0) (nI R2.2.2)) (g := g1) (v0 := nI (s - 1 + R1.2.1)) (by omega) (by omega) (by omega) (Or.inl rfl)
        refine ⟨0, nI (s - 1 + R1.2.1 + R2.2.1), g2, ?_, fun _ => ⟨?_, ?_, fun y => ?_⟩⟩
        · unfold jn_mLines_piece_187s18 jn_mLines_piece_191p15
          refine (if_pos (show nI R2.2.2 = 0 by rw [q2]; rfl)).trans ?_
          show (ex_mLines_fill N (fs_mLines_fault (rL w b pl nB t R2.1 R2.2.2 0 0) (nI R2.2.2)) gl (nI (s - 1)) (nI (s - 1) + nI R1.2.1) (nI c.toNat)).bind _ = _
          rw [hsum]
          refine (bind_eq f1).trans ?_
          have hgo : jn_mLines_piece_236r17 N (rL w b pl nB t R2.1 R2.2.2 0 0) (nI R2.2.2) g1 (nI (s - 1)) (rL w b pl nB t R1.1 R1.2.2 0 0, nI R1.2.1) (nI R2.2.1) (nI (!c).toNat) = some (rL w b pl nB t R2.1 R2.2.2 0 0, g2, nI (s - 1 + R1.2.1 + R2.2.1)) := by
            unfold jn_mLines_piece_236r17
            show (ex_mLines_fill N (fs_mLines_fault (rL w b pl nB t R2.1 R2.2.2 0 0) (nI R2.2.2)) g1 (nI (s - 1) + nI R1.2.1) ((nI (s - 1) + nI R1.2.1) + nI R2.2.1) (nI (!c).toNat)).bind _ = _
            rw [hsum, nI_add]
            refine (bind_eq f3).trans ?_
            unfold jn_mLines_piece_239q16
            show some (rL w b pl nB t R2.1 R2.2.2 0 0, g2, (nI (s - 1) + nI R1.2.1) + nI R2.2.1) = _
            rw [hsum, nI_add]
          rw [show (if (R2.1, 0, s - 1 + R1.2.1 + R2.2.1 + 1, c, s - 1 + R1.2.1).2.1 = 7 then 0 else (R2.1, 0, s - 1 + R1.2.1 + R2.2.1 + 1, c, s - 1 + R1.2.1).2.1) = R2.2.2 by rw [q2]; rfl]
          cases c with
          | false => exact (if_pos (show nI false.toNat = 0 from rfl)).trans hgo
          | true => exact (if_neg (show ¬ nI true.toNat = 0 by decide)).trans hgo
        · show (0 : Int32) = nI (decide (c ≠ c)).toNat
          rw [decide_eq_false (fun h => h rfl)]; rfl
        · show nI (s - 1 + R1.2.1 + R2.2.1) = nI (s - 1 + R1.2.1 + R2.2.1 + 1) - 1
          exact (nI_sub (a := s - 1 + R1.2.1 + R2.2.1 + 1) (b := 1) (by omega)).symm
        · rw [f4 y, f2 y]
          show _ = if s - 1 ≤ y ∧ y < s - 1 + R1.2.1 then nI c.toNat else if s - 1 + R1.2.1 ≤ y ∧ y < s - 1 + R1.2.1 + R2.2.1 + 1 - 1 then nI (!c).toNat else gl y
          by_cases qa : s - 1 ≤ y ∧ y < s - 1 + R1.2.1
          · rw [if_neg (by omega), if_pos qa]
            rw [if_pos qa]
          · rw [if_neg qa, if_neg qa]
            by_cases qb : s - 1 + R1.2.1 ≤ y ∧ y < s - 1 + R1.2.1 + R2.2.1
            · rw [if_pos qb, if_pos (by omega)]
            · rw [if_neg qb, if_neg (by omega)]
    · rw [if_neg q2]
      refine Eq.mpr (congrArg (pcO w pl nB b t c s gl _) (if_neg (show ¬ nI R2.2.2 = 0 from mt (nI_eq (b := 0) (by omega) (by omega)).mp q2))) ?_
      refine ⟨0, (nI (s - 1) + nI R1.2.1) + nI R2.2.1, gl, ?_, fun h => absurd h q2⟩
      unfold jn_mLines_piece_187s18 jn_mLines_piece_191p15
      refine (if_neg (show ¬ nI R2.2.2 = 0 from mt (nI_eq (b := 0) (by omega) (by omega)).mp q2)).trans ?_
      show _ = some (rL w b pl nB t R2.1 (if R2.2.2 = 7 then 0 else R2.2.2) (if R2.2.2 = 7 then 1 else 0) 0, gl, _)
      rw [if_neg (by omega), if_neg (by omega)]; rfl
  · rw [if_neg q1]
    refine Eq.mpr (congrArg (pcO w pl nB b t c s gl _) (if_neg (show ¬ nI R1.2.2 = 0 from mt (nI_eq (b := 0) (by omega) (by omega)).mp q1))) ?_
    refine ⟨0, (nI (s - 1) + nI R1.2.1) + 0, gl, ?_, fun h => absurd h q1⟩
    unfold jn_mLines_piece_164o14
    refine (if_neg (show ¬ nI R1.2.2 = 0 from mt (nI_eq (b := 0) (by omega) (by omega)).mp q1)).trans ?_
    unfold jn_mLines_piece_187s18 jn_mLines_piece_191p15
    refine (if_neg (show ¬ nI R1.2.2 = 0 from mt (nI_eq (b := 0) (by omega) (by omega)).mp q1)).trans ?_
    show _ = some (rL w b pl nB t R1.1 (if R1.2.2 = 7 then 0 else R1.2.2) (if R1.2.2 = 7 then 1 else 0) 0, gl, _)
    rw [if_neg (by omega), if_neg (by omega)]; rfl
theorem fnd_b (P : Nat → Bool) {w s : Nat} (hs : s ≤ w) : s ≤ fnd P (w - s) s ∧ fnd P (w - s) s ≤ w := by have := fnd_le P (w - s) s; omega
theorem b1A_b {w s : Nat} {up : Nat → Bool} {c : Bool} (hs : s ≤ w) : s ≤ b1A w up s c ∧ b1A w up s c ≤ w := fnd_b _ hs
theorem b2A_b {w s : Nat} {up : Nat → Bool} {c : Bool} (hs : s ≤ w) : b1A w up s c ≤ b2A w up s c ∧ b2A w up s c ≤ w ∧ (b1A w up s c < w → b1A w up s c < b2A w up s c) := by
  have h := b1A_b (up := up) (c := c) hs
  unfold b2A
  by_cases q : b1A w up s c = w
  · rw [if_pos q]; omega
  · rw [if_neg q]
    have := fnd_b (fun x => up x == c) (w := w) (s := b1A w up s c + 1) (by omega)
    omega
/-- **a piece of a line, as the reference reads it** -/
theorem ml_piece {N w pl nB i s : Nat} {b : Int64} {t c : Bool} {tu : Int32} {g ga gl wr br wb bb gb gm : Nat → Int32} {up : Nat → Bool} (hN : 20000 < N) (hw : w ≤ 10000) (hpl : pl + nB ≤ 65536) (hT : rdT wr br wb bb gb gm) (hga : dots w ga up) (hs : s ≤ w) (hi : i ≤ 8 * nB) :
    pcO w pl nB b t c s gl (pcA (sbit t g pl) (8 * nB) w up s c i) (ex_mLines_piece N (rL w b pl nB t i 0 0 tu) gm 65536 g ga gl wr br wb bb gb (nI s - 1) (nI c.toNat)) := by
  have hT0 := hT
  obtain ⟨t1, t2, t3, t4, t5, t6⟩ := hT
  have hmb := mdA_b (sbit t g pl) (8 * nB) moWd (if s = 0 then 10 else 9) 14 1 i hi
  have hmany : (if s = 0 then 10 else 9) ≤ 10 := by split <;> omega
  have hmode := ml_mode (N := N) (w := w) (b := b) (t := t) (en := 0) (tu := 0) (g := g) (m := if s = 0 then 10 else 9) (by omega) hmany hpl t6 hi
  have em : modA (sbit t g pl) (8 * nB) s i = mdA (sbit t g pl) (8 * nB) moWd (if s = 0 then 10 else 9) 14 1 i := rfl
  rw [← em] at hmb hmode
  obtain ⟨m, hm⟩ : ∃ m, m = modA (sbit t g pl) (8 * nB) s i := ⟨_, rfl⟩
  rw [← hm] at hmb hmode
  have hm10 : m.2 < 11 := by omega
  have hb1 := b1A_b (w := w) (s := s) (up := up) (c := c) hs
  have hb2 := b2A_b (w := w) (s := s) (up := up) (c := c) hs
  have hp17 : ex_mLines_piece N (rL w b pl nB t i 0 0 tu) gm 65536 g ga gl wr br wb bb gb (nI s - 1) (nI c.toNat) = jn_mLines_piece_17 N (rL w b pl nB t i 0 0 tu) gm 65536 g ga gl wr br wb bb gb (nI s - 1) (nI c.toNat) (nI (if s = 0 then 10 else 9)) := by
    unfold ex_mLines_piece
    by_cases q : s = 0
    · rw [if_neg (mt (aI_ge (by omega)).mp (by omega)), if_pos q]; rfl
    · rw [if_pos ((aI_ge (by omega)).mpr (by omega)), if_neg q]; rfl
  rw [hp17]
  unfold jn_mLines_piece_17
  refine Eq.mpr (congrArg (pcO w pl nB b t c s gl _) (bind_eq hmode)) ?_
  have hplc : 0 ≤ m.2 → m.2 < (if s = 0 then 10 else 9 : Nat) := fun _ => hmb.2.2.2
  unfold pcA
  rw [← hm]
  by_cases q9 : m.2 = 9
  · rw [if_pos q9]
    have hu9 : (if 0 ≤ m.2 then iI m.2 else -1) = 9 := by rw [if_pos (by omega), q9]; rfl
    refine Eq.mpr (congrArg (pcO w pl nB b t c s gl _) (if_pos hu9)) ?_
    have hfc : fC m.2 = 0 := by rw [q9]; rfl
    have hend := ml_modeE (N := N) (w := w) (b := b) (t := t) (en := 0) (tu := 0) (v0 := 10) (g := g) (gm := gm) (i := m.1) (by omega) hpl hmb.2.1
    rw [hfc]
    refine Eq.mpr (congrArg (pcO w pl nB b t c s gl _) (bind_eq hend)) ?_
    have ee : endA (sbit t g pl) (8 * nB) m.1 = mdA (sbit t g pl) (8 * nB) l1N 1 14 1 m.1 := rfl
    have heb := mdA_b (sbit t g pl) (8 * nB) l1N 1 14 1 m.1 hmb.2.1
    rw [← ee] at heb ⊢
    obtain ⟨e, he⟩ : ∃ e, e = endA (sbit t g pl) (8 * nB) m.1 := ⟨_, rfl⟩
    rw [← he] at heb ⊢
    have h46 : ∀ (o : ob_mLines) (k : Int32), (k = 0 ∨ k = 1) → ∀ (uu : rs_mLines_mode), jn_mLines_piece_46u20 N 65536 g ga gl wr br wb bb gb (nI s - 1) (nI c.toNat) (rL w b pl nB t m.1 0 0 0, if 0 ≤ m.2 then iI m.2 else -1) uu k = some (fs_mLines_ended uu.1 k, gl, nI s - 1) := by
      intro o k hk uu
      unfold jn_mLines_piece_46u20
      rw [if_pos (show dk_bool k by rcases hk with e | e <;> subst e <;> decide)]
      unfold jn_mLines_piece_49c2
      show (if (if 0 ≤ m.2 then iI m.2 else -1) < 0 then _ else _) = _
      rw [hu9, if_neg (by decide), if_pos rfl]
      rfl
    by_cases q : e.2 < 0
    · rw [if_pos q]
      have hne : ¬ (if 0 ≤ e.2 then (9 : Int32) else -1) = 9 := by rw [if_neg (by omega)]; decide
      refine Eq.mpr (congrArg (pcO w pl nB b t c s gl _) (if_neg hne)) ?_
      have hfe : 1 ≤ fC e.2 ∧ fC e.2 ≤ 2 := by unfold fC; split; omega; split <;> omega
      refine ⟨0, nI s - 1, gl, ?_, fun h => absurd h (by show ¬ fC e.2 = 0; omega)⟩
      rw [h46 (rL w b pl nB t m.1 0 0 0) 0 (Or.inl rfl)]
      show some (rL w b pl nB t e.1 (fC e.2) 0 0, gl, nI s - 1) = some (rL w b pl nB t e.1 (if fC e.2 = 7 then 0 else fC e.2) (if fC e.2 = 7 then 1 else 0) 0, gl, nI s - 1)
      rw [if_neg (by omega), if_neg (by omega)]
    · rw [if_neg q]
      have hne : (if 0 ≤ e.2 then (9 : Int32) else -1) = 9 := by rw [if_pos (by omega)]
      refine Eq.mpr (congrArg (pcO w pl nB b t c s gl _) (if_pos hne)) ?_
      have hfe : fC e.2 = 0 := by unfold fC; rw [if_neg (by omega), if_neg (by omega)]
      refine ⟨0, nI s - 1, gl, ?_, fun h => absurd h (by show ¬ 7 = 0; omega)⟩
      rw [h46 (rL w b pl nB t m.1 0 0 0) 1 (Or.inr rfl), hfe]
      rfl
  · rw [if_neg q9]
    unfold pcB
    by_cases qn : m.2 < 0
    · rw [if_pos qn]
      have hfe : 1 ≤ fC m.2 ∧ fC m.2 ≤ 2 := by unfold fC; split; omega; split <;> omega
      have hum : (if 0 ≤ m.2 then iI m.2 else -1) = -1 := by rw [if_neg (by omega)]
      refine ⟨0, nI s - 1, gl, ?_, fun h => absurd h (by show ¬ fC m.2 = 0; omega)⟩
      rw [hum]
      refine (if_neg (show ¬ (-1 : Int32) = 9 by decide)).trans ?_
      unfold jn_mLines_piece_49c2
      refine (if_pos (show (-1 : Int32) < 0 by decide)).trans ?_
      show some (rL w b pl nB t m.1 (fC m.2) 0 0, gl, nI s - 1) = some (rL w b pl nB t m.1 (if fC m.2 = 7 then 0 else fC m.2) (if fC m.2 = 7 then 1 else 0) 0, gl, nI s - 1)
      rw [if_neg (by omega), if_neg (by omega)]
    · rw [if_neg qn]
      have hum : (if 0 ≤ m.2 then iI m.2 else -1) = iI m.2 := by rw [if_pos (by omega)]
      have hfc : fC m.2 = 0 := by unfold fC; rw [if_neg (by omega), if_neg (by omega)]
      have hlt := hplc (by omega)
      have hm8 : m.2 ≤ 8 := by
        by_cases q : s = 0
        · rw [if_pos q] at hlt; omega
        · rw [if_neg q] at hlt; omega
      rw [hum, hfc]
      refine Eq.mpr (congrArg (pcO w pl nB b t c s gl _) (if_neg (show ¬ iI m.2 = 9 from mt (iI_eq (b := 9) (by omega) (by omega)).mp q9))) ?_
      have h76 : jn_mLines_piece_49c2 N 65536 g ga gl wr br wb bb gb (nI s - 1) (nI c.toNat) (rL w b pl nB t m.1 0 0 0, iI m.2) (rL w b pl nB t m.1 0 0 0) = jn_mLines_piece_108f5 N 65536 g gl wr br wb bb gb (nI s - 1) (nI c.toNat) (rL w b pl nB t m.1 0 0 0, iI m.2) (rL w b pl nB t m.1 0 0 0) (nI (b1A w up s c)) (nI (b2A w up s c)) := by
        have hgo : jn_mLines_piece_76e4 N 65536 g ga gl wr br wb bb gb (nI s - 1) (nI c.toNat) (rL w b pl nB t m.1 0 0 0) (rL w b pl nB t m.1 0 0 0, iI m.2) (nI (!c).toNat) = jn_mLines_piece_108f5 N 65536 g gl wr br wb bb gb (nI s - 1) (nI c.toNat) (rL w b pl nB t m.1 0 0 0, iI m.2) (rL w b pl nB t m.1 0 0 0) (nI (b1A w up s c)) (nI (b2A w up s c)) := by
          unfold jn_mLines_piece_76e4
          have hch := sm_ch (N := N) (o := rL w b pl nB t m.1 0 0 0) (!c) (by omega) hw rfl hga hs
          refine (bind_eq hch).trans ?_
          have e1 : fnd (chP up !c) (w - s) s = b1A w up s c := rfl
          rw [e1]
          by_cases q : b1A w up s c = w
          · refine (if_pos (show nI (b1A w up s c) = nI w by rw [q])).trans ?_
            have e2 : b2A w up s c = w := by unfold b2A; rw [if_pos q]
            rw [e2]; rfl
          · refine (if_neg (show ¬ nI (b1A w up s c) = nI w from mt (nI_eq (by omega) (by omega)).mp q)).trans ?_
            have hdt := sm_dot (N := N) (o := rL w b pl nB t m.1 0 0 0) (s := b1A w up s c + 1) c (by omega) hw rfl hga (by omega)
            rw [show nI (b1A w up s c + 1) - 1 = nI (b1A w up s c) from nI_sub (a := b1A w up s c + 1) (b := 1) (by omega)] at hdt
            refine (bind_eq hdt).trans ?_
            have e2 : b2A w up s c = fnd (fun x => up x == c) (w - (b1A w up s c + 1)) (b1A w up s c + 1) := by unfold b2A; rw [if_neg q]
            rw [e2]
        unfold jn_mLines_piece_49c2
        refine (if_neg (show ¬ iI m.2 < 0 from mt (iI_lt (b := 0) (by omega) (by omega)).mp (by omega))).trans ?_
        refine (if_neg (show ¬ iI m.2 = 9 from mt (iI_eq (b := 9) (by omega) (by omega)).mp q9)).trans ?_
        cases c with
        | false => exact (if_pos (show nI false.toNat = 0 from rfl)).trans hgo
        | true => exact (if_neg (show ¬ nI true.toNat = 0 by decide)).trans hgo
      refine Eq.mpr (congrArg (pcO w pl nB b t c s gl _) h76) ?_
      unfold jn_mLines_piece_108f5
      by_cases q1 : m.2 = 1
      · rw [if_pos q1]
        refine Eq.mpr (congrArg (pcO w pl nB b t c s gl _) (if_pos (show iI m.2 = 1 by rw [q1]; rfl))) ?_
        by_cases q : 1 ≤ s
        · refine Eq.mpr (congrArg (pcO w pl nB b t c s gl _) (if_pos ((aI_ge (by omega)).mpr q))) ?_
          rw [show nI s - 1 = nI (s - 1) from nI_sub (b := 1) q]
          exact pc_acr hN hw hpl hT0 hs hmb.2.1
        · refine Eq.mpr (congrArg (pcO w pl nB b t c s gl _) (if_neg (mt (aI_ge (by omega)).mp q))) ?_
          have e0 : s - 1 = 0 := by omega
          have := pc_acr (b := b) (c := c) (gl := gl) (g := g) (t := t) hN hw hpl hT0 hs hmb.2.1
          rw [show nI (s - 1) = 0 by rw [e0]; rfl] at this
          exact this
      · rw [if_neg q1]
        refine Eq.mpr (congrArg (pcO w pl nB b t c s gl _) (if_neg (show ¬ iI m.2 = 1 from mt (iI_eq (b := 1) (by omega) (by omega)).mp q1))) ?_
        exact pc_fin (u2 := (rL w b pl nB t m.1 0 0 0, iI m.2)) hN hw hs (by omega) q1 hm8 rfl (b1A w up s c) (b2A w up s c) hb1 ⟨hb2.1, hb2.2.1⟩
theorem pcA_b {bit : Nat → Bool} {nb w : Nat} {up : Nat → Bool} {s i : Nat} {c : Bool} (hi : i ≤ nb) (hs : s ≤ w) : (pcA bit nb w up s c i).1 ≤ nb ∧ (pcA bit nb w up s c i).2.1 ≤ 7 ∧ ((pcA bit nb w up s c i).2.1 = 0 → s < (pcA bit nb w up s c i).2.2.1 ∧ (pcA bit nb w up s c i).2.2.1 ≤ w + 1 ∧ s - 1 ≤ (pcA bit nb w up s c i).2.2.2.2 ∧ (pcA bit nb w up s c i).2.2.2.2 ≤ (pcA bit nb w up s c i).2.2.1 - 1) := by
  have hmb := mdA_b bit nb moWd (if s = 0 then 10 else 9) 14 1 i hi
  have em : modA bit nb s i = mdA bit nb moWd (if s = 0 then 10 else 9) 14 1 i := rfl
  rw [← em] at hmb
  obtain ⟨m, hm⟩ : ∃ m, m = modA bit nb s i := ⟨_, rfl⟩
  rw [← hm] at hmb
  have hb1 := b1A_b (w := w) (s := s) (up := up) (c := c) hs
  have hb2 := b2A_b (w := w) (s := s) (up := up) (c := c) hs
  have hf2 : ∀ r : Int, fC r ≤ 2 := fun r => by unfold fC; split; omega; split <;> omega
  unfold pcA
  rw [← hm]
  by_cases q9 : m.2 = 9
  · rw [if_pos q9]
    have heb := mdA_b bit nb l1N 1 14 1 m.1 hmb.2.1
    have ee : endA bit nb m.1 = mdA bit nb l1N 1 14 1 m.1 := rfl
    rw [← ee] at heb
    have := hf2 (endA bit nb m.1).2
    refine ⟨heb.2.1, ?_, fun h => ?_⟩
    · show (if (endA bit nb m.1).2 < 0 then fC (endA bit nb m.1).2 else 7) ≤ 7
      split <;> omega
    · exfalso
      have h' : (if (endA bit nb m.1).2 < 0 then fC (endA bit nb m.1).2 else 7) = 0 := h
      by_cases q : (endA bit nb m.1).2 < 0
      · rw [if_pos q] at h'
        unfold fC at h'
        by_cases q2 : (endA bit nb m.1).2 = -1
        · rw [if_pos q2] at h'; omega
        · rw [if_neg q2, if_pos (by omega)] at h'; omega
      · rw [if_neg q] at h'; omega
  · rw [if_neg q9]
    unfold pcB
    by_cases qn : m.2 < 0
    · rw [if_pos qn]
      refine ⟨hmb.2.1, by have := hf2 m.2; show fC m.2 ≤ 7; omega, fun h => ?_⟩
      exfalso
      have h' : fC m.2 = 0 := h
      unfold fC at h'
      by_cases q2 : m.2 = -1
      · rw [if_pos q2] at h'; omega
      · rw [if_neg q2, if_pos (by omega)] at h'; omega
    · rw [if_neg qn]
      by_cases q1 : m.2 = 1
      · rw [if_pos q1]
        have b1 := rrA_b bit nb (if c then brWd else wrWd) (if c then bbWd else wbWd) lbWd w (s - 1) 200 0 m.1 hmb.2.1 (by omega)
        have e0 : runA bit nb w c (s - 1) m.1 = rrA bit nb (if c then brWd else wrWd) (if c then bbWd else wbWd) lbWd w (s - 1) 200 0 m.1 := rfl
        rw [← e0] at b1
        obtain ⟨R1, hR1⟩ : ∃ R, R = runA bit nb w c (s - 1) m.1 := ⟨_, rfl⟩
        rw [← hR1] at b1 ⊢
        by_cases q2 : R1.2.2 = 0
        · rw [if_pos q2]
          have b2 := rrA_b bit nb (if !c then brWd else wrWd) (if !c then bbWd else wbWd) lbWd w (s - 1 + R1.2.1) 200 0 R1.1 b1.2.1 (b1.2.2.2.2 q2)
          have e1 : runA bit nb w (!c) (s - 1 + R1.2.1) R1.1 = rrA bit nb (if !c then brWd else wrWd) (if !c then bbWd else wbWd) lbWd w (s - 1 + R1.2.1) 200 0 R1.1 := rfl
          rw [← e1] at b2
          obtain ⟨R2, hR2⟩ : ∃ R, R = runA bit nb w (!c) (s - 1 + R1.2.1) R1.1 := ⟨_, rfl⟩
          rw [← hR2] at b2 ⊢
          by_cases q3 : R2.2.2 = 0
          · rw [if_pos q3]
            have := b2.2.2.2.2 q3
            by_cases q4 : R1.2.1 + R2.2.1 = 0
            · rw [if_pos q4]
              exact ⟨b2.2.1, by show 6 ≤ 7; omega, fun h => absurd h (by show ¬ 6 = 0; omega)⟩
            · rw [if_neg q4]
              exact ⟨b2.2.1, by show 0 ≤ 7; omega, fun _ => ⟨by show s < s - 1 + R1.2.1 + R2.2.1 + 1; omega, by show s - 1 + R1.2.1 + R2.2.1 + 1 ≤ w + 1; omega, by show s - 1 ≤ s - 1 + R1.2.1; omega, by show s - 1 + R1.2.1 ≤ s - 1 + R1.2.1 + R2.2.1 + 1 - 1; omega⟩⟩
          · rw [if_neg q3]
            exact ⟨b2.2.1, by show R2.2.2 ≤ 7; omega, fun h => absurd h q3⟩
        · rw [if_neg q2]
          exact ⟨b1.2.1, by show R1.2.2 ≤ 7; omega, fun h => absurd h q2⟩
      · rw [if_neg q1]
        by_cases q0 : m.2 = 0
        · rw [if_pos q0]
          by_cases q2 : b2A w up s c = w
          · rw [if_pos q2]
            exact ⟨hmb.2.1, by show 3 ≤ 7; omega, fun h => absurd h (by show ¬ 3 = 0; omega)⟩
          · rw [if_neg q2]
            exact ⟨hmb.2.1, by show 0 ≤ 7; omega, fun _ => ⟨by show s < b2A w up s c + 1; omega, by show b2A w up s c + 1 ≤ w + 1; omega, by show s - 1 ≤ b2A w up s c; omega, by show b2A w up s c ≤ b2A w up s c + 1 - 1; omega⟩⟩
        · rw [if_neg q0]
          by_cases q2 : (b1A w up s c : Int) + m.2 - 5 < s ∨ (w : Int) < b1A w up s c + m.2 - 5
          · rw [if_pos q2]
            exact ⟨hmb.2.1, by show 4 ≤ 7; omega, fun h => absurd h (by show ¬ 4 = 0; omega)⟩
          · rw [if_neg q2]
            exact ⟨hmb.2.1, by show 0 ≤ 7; omega, fun _ => ⟨by show s < ((b1A w up s c : Int) + m.2 - 5).toNat + 1; omega, by show ((b1A w up s c : Int) + m.2 - 5).toNat + 1 ≤ w + 1; omega, by show s - 1 ≤ ((b1A w up s c : Int) + m.2 - 5).toNat; omega, by show ((b1A w up s c : Int) + m.2 - 5).toNat ≤ ((b1A w up s c : Int) + m.2 - 5).toNat + 1 - 1; omega⟩⟩
/-- the dots of a line behind a piece -/
def spA (s : Nat) (c : Bool) (mid s' : Nat) (p : Nat → Bool) : Nat → Bool := fun y => if s - 1 ≤ y ∧ y < mid then c else if mid ≤ y ∧ y < s' - 1 then !c else p y
/-- a line is read: where it ends, its fault (7: the picture's end), its dots -/
def lnA (bit : Nat → Bool) (nb w : Nat) (up : Nat → Bool) : Nat → Nat → Bool → Nat → (Nat → Bool) → Nat × Nat × (Nat → Bool)
  | 0, _, _, i, p => (i, 0, p)
  | k + 1, s, c, i, p => if w < s then (i, 0, p) else if (pcA bit nb w up s c i).2.1 = 0 then lnA bit nb w up k (pcA bit nb w up s c i).2.2.1 (pcA bit nb w up s c i).2.2.2.1 (pcA bit nb w up s c i).1 (spA s c (pcA bit nb w up s c i).2.2.2.2 (pcA bit nb w up s c i).2.2.1 p) else ((pcA bit nb w up s c i).1, (pcA bit nb w up s c i).2.1, p)
theorem lnA_b {bit : Nat → Bool} {nb w : Nat} {up : Nat → Bool} : ∀ (k s : Nat) (c : Bool) (i : Nat) (p : Nat → Bool), i ≤ nb → (lnA bit nb w up k s c i p).1 ≤ nb ∧ (lnA bit nb w up k s c i p).2.1 ≤ 7 := by
  intro k
  induction k with
  | zero => intro s c i p hi; exact ⟨hi, by show 0 ≤ 7; omega⟩
  | succ k ih =>
    intro s c i p hi
    rw [lnA]
    by_cases q : w < s
    · rw [if_pos q]; exact ⟨hi, by show 0 ≤ 7; omega⟩
    · rw [if_neg q]
      have hb := pcA_b (bit := bit) (nb := nb) (up := up) (c := c) hi (show s ≤ w by omega)
      by_cases q2 : (pcA bit nb w up s c i).2.1 = 0
      · rw [if_pos q2]; exact ih _ _ _ _ hb.1
      · rw [if_neg q2]; exact ⟨hb.1, hb.2.1⟩
theorem ml_lread {N w pl nB : Nat} {b : Int64} {t : Bool} {g ga wr br wb bb gb gm : Nat → Int32} {up : Nat → Bool} (hN : 20000 < N) (hw : w ≤ 10000) (hpl : pl + nB ≤ 65536) (hT : rdT wr br wb bb gb gm) (hga : dots w ga up) : ∀ (k s : Nat) (c : Bool) (i : Nat) (p : Nat → Bool) (tu : Int32) (gl : Nat → Int32) (n : Nat), w + 2 ≤ s + k → s ≤ w + 1 → k + 2 < n → i ≤ 8 * nB → (∀ y, y < s - 1 → gl y = nI (p y).toNat) →
    ∃ tu' gl', lp_mLines_read_4 N wr br wb bb gb gm 65536 g ga n (nI c.toNat) (nI s - 1) (rL w b pl nB t i 0 0 tu) gl = some (rL w b pl nB t (lnA (sbit t g pl) (8 * nB) w up k s c i p).1 (if (lnA (sbit t g pl) (8 * nB) w up k s c i p).2.1 = 7 then 0 else (lnA (sbit t g pl) (8 * nB) w up k s c i p).2.1) (if (lnA (sbit t g pl) (8 * nB) w up k s c i p).2.1 = 7 then 1 else 0) tu', gl') ∧ ((lnA (sbit t g pl) (8 * nB) w up k s c i p).2.1 = 0 → dots w gl' (lnA (sbit t g pl) (8 * nB) w up k s c i p).2.2) := by
  intro k
  induction k with
  | zero => intro s c i p tu gl n hk hs; exact absurd hk (by omega)
  | succ k ih =>
    intro s c i p tu gl n hk hs hn hi hgl
    obtain ⟨n, rfl⟩ : ∃ z, n = z + 2 := ⟨n - 2, by omega⟩
    rw [lp_mLines_read_4, lnA]
    have hend : (fd_mLines_width (rL w b pl nB t i 0 0 tu) ≤ nI s - 1) ↔ w < s := by
      show nI w ≤ nI s - 1 ↔ _
      rw [Int32.le_iff_toInt_le, show (1 : Int32) = nI 1 from rfl, nI_sub_toInt (by omega) (by omega), nI_toInt (by omega)]; omega
    by_cases q : w < s
    · rw [if_pos (hend.mpr q), if_pos q]
      refine ⟨tu, gl, rfl, fun _ x hx => hgl x (by omega)⟩
    · rw [if_neg (mt hend.mp q), if_neg q]
      have hb := pcA_b (bit := sbit t g pl) (nb := 8 * nB) (up := up) (c := c) hi (show s ≤ w by omega)
      obtain ⟨tu1, x, gl1, h1, h2⟩ := ml_piece (N := N) (b := b) (c := c) (tu := tu) (gl := gl) (g := g) (t := t) hN hw hpl hT hga (show s ≤ w by omega) hi
      obtain ⟨R, hR⟩ : ∃ R, R = pcA (sbit t g pl) (8 * nB) w up s c i := ⟨_, rfl⟩
      rw [← hR] at h1 h2 hb ⊢
      have hstep : ∀ (rest : Option (ob_mLines × (Nat → Int32))), (if fd_mLines_fault (rL w b pl nB t i 0 0 tu) = 0 then (if fd_mLines_ended (rL w b pl nB t i 0 0 tu) = 0 then rest else some (rL w b pl nB t i 0 0 tu, gl)) else some (rL w b pl nB t i 0 0 tu, gl)) = rest := fun rest => (if_pos (show nI 0 = 0 from rfl)).trans (if_pos (show (0 : Int32) = 0 from rfl))
      rw [hstep, h1, Option.bind_some]
      by_cases q0 : R.2.1 = 0
      · obtain ⟨e1, e2, e3⟩ := h2 q0
        obtain ⟨b1, b2, b3, b4⟩ := hb.2.2 q0
        have z7 : ¬ R.2.1 = 7 := by omega
        rw [if_pos q0, if_neg z7, if_neg z7, q0]
        have hgl1 : ∀ y, y < R.2.2.1 - 1 → gl1 y = nI (spA s c R.2.2.2.2 R.2.2.1 p y).toNat := by
          intro y hy
          rw [e3 y]
          unfold spA
          by_cases qa : s - 1 ≤ y ∧ y < R.2.2.2.2
          · rw [if_pos qa, if_pos qa]
          · rw [if_neg qa, if_neg qa]
            by_cases qb : R.2.2.2.2 ≤ y ∧ y < R.2.2.1 - 1
            · rw [if_pos qb, if_pos qb]
            · rw [if_neg qb, if_neg qb]; exact hgl y (by omega)
        obtain ⟨tu2, gl2, i1, i2⟩ := ih R.2.2.1 R.2.2.2.1 R.1 (spA s c R.2.2.2.2 R.2.2.1 p) tu1 gl1 (n + 1) (by omega) b2 (by omega) hb.1 hgl1
        refine ⟨tu2, gl2, ?_, i2⟩
        refine Eq.trans ?_ i1
        show (if tu1 = 0 then lp_mLines_read_4 N wr br wb bb gb gm 65536 g ga (n + 1) (nI c.toNat) x (rL w b pl nB t R.1 0 0 tu1) gl1 else if nI c.toNat = 0 then lp_mLines_read_4 N wr br wb bb gb gm 65536 g ga (n + 1) 1 x (rL w b pl nB t R.1 0 0 tu1) gl1 else lp_mLines_read_4 N wr br wb bb gb gm 65536 g ga (n + 1) 0 x (rL w b pl nB t R.1 0 0 tu1) gl1) = _
        rw [e2]
        by_cases qc : R.2.2.2.1 = c
        · rw [if_pos (show tu1 = 0 by rw [e1, decide_eq_false (fun h => h qc)]; rfl), qc]
        · rw [if_neg (show ¬ tu1 = 0 by rw [e1, decide_eq_true qc]; decide)]
          cases c with
          | false =>
            have : R.2.2.2.1 = true := by cases h : R.2.2.2.1 with | true => rfl | false => exact absurd h qc
            rw [if_pos (show nI false.toNat = 0 from rfl), this]; rfl
          | true =>
            have : R.2.2.2.1 = false := by cases h : R.2.2.2.1 with | false => rfl | true => exact absurd h qc
            rw [if_neg (show ¬ nI true.toNat = 0 by decide), this]; rfl
      · rw [if_neg q0]
        have hstop : ∀ (w2 x2 : Int32), lp_mLines_read_4 N wr br wb bb gb gm 65536 g ga (n + 1) w2 x2 (rL w b pl nB t R.1 (if R.2.1 = 7 then 0 else R.2.1) (if R.2.1 = 7 then 1 else 0) tu1) gl1 = some (rL w b pl nB t R.1 (if R.2.1 = 7 then 0 else R.2.1) (if R.2.1 = 7 then 1 else 0) tu1, gl1) := by
          intro w2 x2
          rw [lp_mLines_read_4]
          by_cases qa : fd_mLines_width (rL w b pl nB t R.1 (if R.2.1 = 7 then 0 else R.2.1) (if R.2.1 = 7 then 1 else 0) tu1) ≤ x2
          · rw [if_pos qa]
          · rw [if_neg qa]
            by_cases q7 : R.2.1 = 7
            · rw [if_pos q7, if_pos q7]
              exact (if_pos (show nI 0 = 0 from rfl)).trans (if_neg (show ¬ (1 : Int32) = 0 by decide))
            · rw [if_neg q7, if_neg q7]
              exact if_neg (show ¬ nI R.2.1 = 0 from mt (nI_eq (b := 0) (by omega) (by omega)).mp q0)
        refine ⟨tu1, gl1, ?_, fun h => absurd h q0⟩
        show (if tu1 = 0 then _ else if nI c.toNat = 0 then _ else _) = _
        rw [hstop, hstop, hstop, ite_self, ite_self]
theorem ml_copy {w : Nat} {out : ob_mLines × (Nat → Int32)} {p : Nat → Bool} (hw : w ≤ 10000) (ho : fd_mLines_width out.1 = nI w) (hg : dots w out.2 p) : ∀ (m n k : Nat) (ga : Nat → Int32), w - k = m → m < n → k ≤ w → (∀ x, x < k → ga x = nI (p x).toNat) → ∃ ga', lp_mLines_read_75c2 out n (nI k) ga = some ga' ∧ dots w ga' p := by
  intro m
  induction m with
  | zero =>
    intro n k ga hm hn hk h
    obtain ⟨n, rfl⟩ : ∃ q, n = q + 1 := ⟨n - 1, by omega⟩
    exact ⟨ga, by rw [lp_mLines_read_75c2, ho, if_pos (nI_le (by omega) (by omega))], fun x hx => h x (by omega)⟩
  | succ m ih =>
    intro n k ga hm hn hk h
    obtain ⟨n, rfl⟩ : ∃ q, n = q + 1 := ⟨n - 1, by omega⟩
    obtain ⟨ga', h1, h2⟩ := ih n (k + 1) (upd ga k (nI (p k).toNat)) (by omega) (by omega) (by omega) (fun x hx => by
      unfold upd
      by_cases q : x = k
      · rw [if_pos q, q]
      · rw [if_neg q]; exact h x (by omega))
    refine ⟨ga', ?_, h2⟩
    rw [lp_mLines_read_75c2, ho, if_neg (nI_ge (by omega) (by omega)), if_pos (dk_in_nI (by omega) (by omega)), if_pos (dk_in_nI (by omega) (by omega)), nI_clamp (by omega), hg k (by omega), nar_bool, nI_1]
    exact h1
/-- a line -/
def lineA (bit : Nat → Bool) (nb w : Nat) (up : Nat → Bool) (i : Nat) : Nat × Nat × (Nat → Bool) := lnA bit nb w up (w + 2) 0 false i (fun _ => false)
/-- **a line, as the reference reads it** -/
theorem ml_read {N w pl nB i : Nat} {b : Int64} {t : Bool} {tu : Int32} {g ga gl wr br wb bb gb gm : Nat → Int32} {up : Nat → Bool} (hN : 20000 < N) (hw : w ≤ 10000) (hpl : pl + nB ≤ 65536) (hT : rdT wr br wb bb gb gm) (hga : dots w ga up) (hi : i ≤ 8 * nB) : ∃ tu' gl' ga', ex_mLines_read N (rL w b pl nB t i 0 0 tu) wr br wb bb gb gm 65536 g gl ga = some (rL w b pl nB t (lineA (sbit t g pl) (8 * nB) w up i).1 (if (lineA (sbit t g pl) (8 * nB) w up i).2.1 = 7 then 0 else (lineA (sbit t g pl) (8 * nB) w up i).2.1) (if (lineA (sbit t g pl) (8 * nB) w up i).2.1 = 7 then 1 else 0) tu', gl', ga', if (lineA (sbit t g pl) (8 * nB) w up i).2.1 = 0 then 1 else 0) ∧ ((lineA (sbit t g pl) (8 * nB) w up i).2.1 = 0 → dots w ga' (lineA (sbit t g pl) (8 * nB) w up i).2.2) ∧ (¬ (lineA (sbit t g pl) (8 * nB) w up i).2.1 = 0 → ga' = ga) := by
  obtain ⟨tu', gl', h1, h2⟩ := ml_lread (N := N) (b := b) (t := t) (g := g) hN hw hpl hT hga (w + 2) 0 false i (fun _ => false) tu gl N (by omega) (by omega) (by omega) hi (fun y hy => absurd hy (by omega))
  have hb := lnA_b (bit := sbit t g pl) (nb := 8 * nB) (w := w) (up := up) (w + 2) 0 false i (fun _ => false) hi
  have eL : lnA (sbit t g pl) (8 * nB) w up (w + 2) 0 false i (fun _ => false) = lineA (sbit t g pl) (8 * nB) w up i := rfl
  rw [eL] at h1 h2 hb
  obtain ⟨L, hL⟩ : ∃ L, L = lineA (sbit t g pl) (8 * nB) w up i := ⟨_, rfl⟩
  rw [← hL] at h1 h2 hb ⊢
  unfold ex_mLines_read
  have h1' : lp_mLines_read_4 N wr br wb bb gb gm 65536 g ga N 0 (-1) (rL w b pl nB t i 0 0 tu) gl = _ := h1
  rw [h1', Option.bind_some]
  by_cases q0 : L.2.1 = 0
  · have z7 : ¬ L.2.1 = 7 := by omega
    rw [if_neg z7, if_neg z7, if_pos q0, q0]
    obtain ⟨ga', c1, c2⟩ := ml_copy (w := w) (out := (rL w b pl nB t L.1 0 0 tu', gl')) hw rfl (h2 q0) w N 0 ga (by omega) (by omega) (by omega) (fun x hx => absurd hx (by omega))
    refine ⟨tu', gl', ga', ?_, fun _ => c2, fun h => absurd rfl h⟩
    refine (if_neg (show ¬ (0 : Int32) < nI 0 by decide)).trans ?_
    refine (if_pos (show (0 : Int32) = 0 from rfl)).trans ?_
    exact (bind_eq c1).trans rfl
  · refine ⟨tu', gl', ga, ?_, fun h => absurd h q0, fun _ => rfl⟩
    rw [if_neg q0]
    by_cases q7 : L.2.1 = 7
    · rw [if_pos q7, if_pos q7]
      refine (if_neg (show ¬ (0 : Int32) < nI 0 by decide)).trans ?_
      exact if_neg (show ¬ (1 : Int32) = 0 by decide)
    · rw [if_neg q7, if_neg q7]
      exact if_pos (show (0 : Int32) < nI L.2.1 from nI_lt (a := 0) (by omega) (by omega))
theorem isCh_ext {n : Nat} {ch : Nat → Nat} {p : Nat → Bool} : ∀ (k L : Nat), isCh L n ch p → (∀ y, L ≤ y → y < L + k → p y = decide (n % 2 = 1)) → isCh (L + k) n ch p := by
  intro k
  induction k with
  | zero => intro L h _; exact h
  | succ k ih =>
    intro L h hp
    have := ih (L + 1) (isCh_step h (hp L (Nat.le_refl _) (by omega))) (fun y h1 h2 => hp y (by omega) (by omega))
    rw [show L + (k + 1) = L + 1 + k by omega]; exact this
/-- a span of dots is taken over -/
theorem lr_span {N w s n to at_ en ac : Nat} {t c : Bool} {nd co ov ru : Int32} {g : Nat → Int32} {ch : Nat → Nat} {p : Nat → Bool} (hw : w ≤ 10000) (hto : to ≤ w) (hL : s - 1 ≤ to) (hs : s ≤ w + 1) (hg : chA n g ch) (h : isCh (s - 1) n ch p) (hp : ∀ y, s - 1 ≤ y → y < to → p y = c) :
    ∃ n' ch' g', ex_LineReader_spanTo N (cL nd at_ en t ac n w (nI s - 1) co ov ru) g (nI to) (nI c.toNat) = some (cL nd at_ en t ac n' w (nI to) co ov ru, g') ∧ isCh to n' ch' p ∧ chA n' g' ch' := by
  have hn := isCh_le h
  have hfrom : (if fd_LineReader_a (cL nd at_ en t ac n w (nI s - 1) co ov ru) < 0 then (0 : Int32) else fd_LineReader_a (cL nd at_ en t ac n w (nI s - 1) co ov ru)) = nI (s - 1) := by
    show (if nI s - 1 < 0 then (0 : Int32) else nI s - 1) = _
    by_cases q : s = 0
    · subst q; rfl
    · rw [if_neg (show ¬ nI s - 1 < 0 by rw [show nI s - 1 = nI (s - 1) from nI_sub (b := 1) (by omega)]; exact nI_pos (by omega))]
      exact nI_sub (b := 1) (by omega)
  unfold ex_LineReader_spanTo
  rw [hfrom]
  unfold dk_let
  have hpar : (fd_LineReader_lineCount (cL nd at_ en t ac n w (nI s - 1) co ov ru) &&& 1 = nI c.toNat) ↔ decide (n % 2 = 1) = c := by
    show nI n &&& 1 = nI c.toNat ↔ _
    rw [nI_and1 (by omega)]
    cases c with
    | false =>
      rw [show nI false.toNat = nI 0 from rfl, nI_eq (by omega) (by omega), decide_eq_false_iff_not]; omega
    | true =>
      rw [show nI true.toNat = nI 1 from rfl, nI_eq (by omega) (by omega), decide_eq_true_iff]
  by_cases q1 : to ≤ s - 1
  · have e : to = s - 1 := by omega
    refine ⟨n, ch, g, ?_, by rw [e]; exact h, hg⟩
    exact if_pos (nI_le q1 (by omega))
  · by_cases q2 : decide (n % 2 = 1) = c
    · refine ⟨n, ch, g, ?_, ?_, hg⟩
      · refine (if_neg (nI_ge (by omega) (by omega))).trans ?_
        exact if_pos (hpar.mpr q2)
      · have := isCh_ext (to - (s - 1)) (s - 1) h (fun y h1 h2 => (hp y h1 (by omega)).trans q2.symm)
        rw [show s - 1 + (to - (s - 1)) = to by omega] at this; exact this
    · have hc : c = !decide (n % 2 = 1) := by cases c <;> cases hd : decide (n % 2 = 1) <;> simp_all
      refine ⟨n + 1, nset ch n (s - 1), upd g n (nI (s - 1)), ?_, ?_, ?_⟩
      · refine (if_neg (nI_ge (by omega) (by omega))).trans ?_
        refine (if_neg (mt hpar.mp q2)).trans ?_
        refine (if_neg (show ¬ (10000 : Int32) ≤ nI n from nI_ge (b := 10000) (by omega) (by omega))).trans ?_
        refine (if_pos (show dk_in (nI n) 10000 from dk_in_nI (by omega) (by omega))).trans ?_
        show some (cL nd at_ en t ac n w (nI s - 1) co ov ru |> fun o => fs_LineReader_a (fs_LineReader_lineCount o (nI n + 1)) (nI to), upd g (nI n).toNatClampNeg (nI (s - 1))) = _
        rw [nI_clamp (by omega), nI_1]; rfl
      · have h1 := isCh_push h (by rw [hp (s - 1) (Nat.le_refl _) (by omega)]; exact hc)
        have h2 := isCh_ext (to - (s - 1 + 1)) (s - 1 + 1) h1 (fun y h1 h2 => by
          rw [hp y (by omega) (by omega), hc]
          by_cases q : n % 2 = 1
          · rw [decide_eq_true q, decide_eq_false (show ¬ (n + 1) % 2 = 1 by omega)]; rfl
          · rw [decide_eq_false q, decide_eq_true (show (n + 1) % 2 = 1 by omega)]; rfl)
        rw [show s - 1 + 1 + (to - (s - 1 + 1)) = to by omega] at h2; exact h2
      · intro i hi
        unfold upd nset
        by_cases q : i = n
        · rw [if_pos q, if_pos q]
        · rw [if_neg q, if_neg q]; exact hg i (by omega)
/-- the change above that comes next -/
theorem lr_over {w na s at_ en lc : Nat} {t : Bool} {nd co ru : Int32} {ga : Nat → Int32} {ca : Nat → Nat} {up : Nat → Bool} (hga : chA na ga ca) (h : isCh w na ca up) (hw : w ≤ 10000) (hs : s ≤ w) :
    ∀ (m k i : Nat), na - i = m → m < k → i ≤ na → (i = 0 ∨ ca (i - 1) < s) →
      ∃ j, lp_LineReader_firstAbove_0 ga k (cL nd at_ en t na lc w (nI s - 1) co (nI i) ru) = some (cL nd at_ en t na lc w (nI s - 1) co (nI j) ru) ∧ j ≤ na ∧ (j = 0 ∨ ca (j - 1) < s) ∧ s ≤ chx w na ca j := by
  have hna := isCh_le h
  intro m
  induction m with
  | zero =>
    intro k i hm hk hi h1
    obtain ⟨k, rfl⟩ : ∃ q, k = q + 1 := ⟨k - 1, by omega⟩
    refine ⟨i, ?_, hi, h1, by unfold chx; rw [if_neg (by omega)]; omega⟩
    rw [lp_LineReader_firstAbove_0]
    exact if_pos (show nI na ≤ nI i from nI_le (by omega) (by omega))
  | succ m ih =>
    intro k i hm hk hi h1
    obtain ⟨k, rfl⟩ : ∃ q, k = q + 1 := ⟨k - 1, by omega⟩
    have hci := h.1 i (by omega)
    have hlt : (nI s - 1 < nI (ca i)) ↔ s ≤ ca i := by
      have e : (nI s - 1).toInt = (s : Int) - 1 := nI_sub_toInt (a := s) (b := 1) (by omega) (by omega)
      rw [Int32.lt_iff_toInt_lt, e, nI_toInt (by omega)]; omega
    rw [lp_LineReader_firstAbove_0]
    by_cases hc : s ≤ ca i
    · refine ⟨i, ?_, hi, h1, by unfold chx; rw [if_pos (by omega)]; exact hc⟩
      refine (if_neg (show ¬ nI na ≤ nI i from nI_ge (by omega) (by omega))).trans ?_
      refine (if_neg (show ¬ (10000 : Int32) ≤ nI i from nI_ge (b := 10000) (by omega) (by omega))).trans ?_
      refine (if_pos (show dk_in (nI i) 10000 from dk_in_nI (by omega) (by omega))).trans ?_
      exact if_pos (show nI s - 1 < ga (nI i).toNatClampNeg by rw [nI_clamp (by omega), hga i (by omega)]; exact hlt.mpr hc)
    · obtain ⟨j, j1, j2⟩ := ih k (i + 1) (by omega) (by omega) (by omega) (Or.inr (by show ca (i + 1 - 1) < s; rw [show i + 1 - 1 = i by omega]; omega))
      refine ⟨j, ?_, j2⟩
      refine (if_neg (show ¬ nI na ≤ nI i from nI_ge (by omega) (by omega))).trans ?_
      refine (if_neg (show ¬ (10000 : Int32) ≤ nI i from nI_ge (b := 10000) (by omega) (by omega))).trans ?_
      refine (if_pos (show dk_in (nI i) 10000 from dk_in_nI (by omega) (by omega))).trans ?_
      refine (if_neg (show ¬ nI s - 1 < ga (nI i).toNatClampNeg by rw [nI_clamp (by omega), hga i (by omega)]; exact mt hlt.mp hc)).trans ?_
      show lp_LineReader_firstAbove_0 ga k (cL nd at_ en t na lc w (nI s - 1) co (nI i + 1) ru) = _
      rw [nI_1]; exact j1
theorem lr_first {N w na s at_ en lc i : Nat} {t c : Bool} {nd ru : Int32} {ga : Nat → Int32} {ca : Nat → Nat} {up : Nat → Bool} (hN : 20000 < N) (hga : chA na ga ca) (h : isCh w na ca up) (hw : w ≤ 10000) (hs : s ≤ w) (hi : i ≤ na) (h1 : i = 0 ∨ ca (i - 1) < s) :
    ∃ j, ex_LineReader_firstAbove N (cL nd at_ en t na lc w (nI s - 1) (nI c.toNat) (nI i) ru) ga = some (cL nd at_ en t na lc w (nI s - 1) (nI c.toNat) (nI j) ru, nI (bNo j c)) ∧ j ≤ na ∧ (j = 0 ∨ ca (j - 1) < s) ∧ s ≤ chx w na ca j := by
  have hna := isCh_le h
  obtain ⟨j, j1, j2, j3, j4⟩ := lr_over (nd := nd) (at_ := at_) (en := en) (t := t) (lc := lc) (co := nI c.toNat) (ru := ru) hga h hw hs (na - i) N i rfl (by omega) hi h1
  refine ⟨j, ?_, j2, j3, j4⟩
  unfold ex_LineReader_firstAbove
  refine (bind_eq j1).trans ?_
  have hpar : (nI j &&& 1 = nI c.toNat) ↔ c = decide (j % 2 = 1) := by
    rw [nI_and1 (by omega)]
    cases c with
    | false => rw [show nI false.toNat = nI 0 from rfl, nI_eq (by omega) (by omega), eq_comm (a := false), decide_eq_false_iff_not]; omega
    | true => rw [show nI true.toNat = nI 1 from rfl, nI_eq (by omega) (by omega), eq_comm (a := true), decide_eq_true_iff]
  unfold bNo
  by_cases q : c = decide (j % 2 = 1)
  · rw [if_pos q]; exact if_pos (hpar.mpr q)
  · rw [if_neg q]
    refine (if_neg (mt hpar.mp q)).trans ?_
    show some (_, nI j + 1) = _
    rw [nI_1]
/-- what a piece leaves in the class -/
def cpO (nd : Int32) (pl en : Nat) (t : Bool) (na w s : Nat) (c : Bool) (j : Nat) (p : Nat → Bool) (R : Nat × Nat × Nat × Bool × Nat) (u : Option (ob_LineReader × (Nat → Int32) × Int32)) : Prop := ∃ (o' : ob_LineReader) (gl' : Nat → Int32), u = some (o', gl', nI R.2.1) ∧ (R.2.1 = 0 → ∃ (lc' : Nat) (cl' : Nat → Nat) (ru' : Int32), o' = cL nd (8 * pl + R.1) en t na lc' w (nI R.2.2.1 - 1) (nI R.2.2.2.1.toNat) (nI j) ru' ∧ chA lc' gl' cl' ∧ isCh (R.2.2.1 - 1) lc' cl' (spA s c R.2.2.2.2 R.2.2.1 p))
theorem sp_low {s mid s' y : Nat} {c : Bool} {p : Nat → Bool} (hm : s - 1 ≤ mid) (hy : y < s - 1) : p y = spA s c mid s' p y := by
  unfold spA; rw [if_neg (by omega), if_neg (by omega)]
theorem cp_one {N pl i en na w s to n j : Nat} {t c c' : Bool} {nd ru : Int32} {gl : Nat → Int32} {ch : Nat → Nat} {p : Nat → Bool} (hw : w ≤ 10000) (hto : to ≤ w) (hL : s - 1 ≤ to) (hs : s ≤ w) (hg : chA n gl ch) (h : isCh (s - 1) n ch p) :
    ∃ n' ch' g', ex_LineReader_spanTo N (cL nd (8 * pl + i) en t na n w (nI s - 1) (nI c.toNat) (nI j) ru) gl (nI to) (nI c.toNat) = some (cL nd (8 * pl + i) en t na n' w (nI (to + 1) - 1) (nI c.toNat) (nI j) ru, g') ∧ isCh to n' ch' (spA s c to (to + 1) p) ∧ chA n' g' ch' := by
  have h' : isCh (s - 1) n ch (spA s c to (to + 1) p) := isCh_congr h (fun y hy => sp_low hL hy)
  obtain ⟨n', ch', g', e1, e2, e3⟩ := lr_span (N := N) (at_ := 8 * pl + i) (en := en) (ac := na) (t := t) (c := c) (nd := nd) (co := nI c.toNat) (ov := nI j) (ru := ru) hw hto hL (by omega) hg h' (fun y h1 h2 => by unfold spA; rw [if_pos ⟨h1, h2⟩])
  refine ⟨n', ch', g', ?_, e2, e3⟩
  rw [show nI (to + 1) - 1 = nI to from nI_sub (a := to + 1) (b := 1) (by omega)]; exact e1
/-- pass and shift -/
theorem cp_fin {N pl en na w s n j i : Nat} {t c : Bool} {nd ru : Int32} {gl : Nat → Int32} {ch : Nat → Nat} {p : Nat → Bool} {m : Nat × Int} (hw : w ≤ 10000) (hs : s ≤ w) (hm0 : 0 ≤ m.2) (hm9 : m.2 ≤ 8) (hm1 : m.2 ≠ 1) (hg : chA n gl ch) (h : isCh (s - 1) n ch p) (b1 b2 : Nat) (hb1 : s ≤ b1 ∧ b1 ≤ w) (hb2 : b1 ≤ b2 ∧ b2 ≤ w) :
    cpO nd pl en t na w s c j p (if m.2 = 0 then (if b2 = w then (i, 3, s, c, 0) else (i, 0, b2 + 1, c, b2)) else if (b1 : Int) + m.2 - 5 < s ∨ (w : Int) < b1 + m.2 - 5 then (i, 4, s, c, 0) else (i, 0, ((b1 : Int) + m.2 - 5).toNat + 1, !c, ((b1 : Int) + m.2 - 5).toNat)) (if m.2 = 0 then ex_LineReader_pass N (cL nd (8 * pl + i) en t na n w (nI s - 1) (nI c.toNat) (nI j) ru) gl (nI b2) else ex_LineReader_shift N (cL nd (8 * pl + i) en t na n w (nI s - 1) (nI c.toNat) (nI j) ru) gl ((nI b1 + iI (m.2 - 2)) - 3)) := by
  by_cases q0 : m.2 = 0
  · rw [if_pos q0, if_pos q0]
    unfold ex_LineReader_pass
    by_cases q1 : b2 = w
    · rw [if_pos q1]
      refine ⟨cL nd (8 * pl + i) en t na n w (nI s - 1) (nI c.toNat) (nI j) ru, gl, ?_, fun h => absurd h (by show ¬ 3 = 0; omega)⟩
      exact if_neg (show ¬ nI b2 < nI w from nI_nlt (by omega) (by omega))
    · rw [if_neg q1]
      obtain ⟨n', ch', g', e1, e2, e3⟩ := cp_one (N := N) (pl := pl) (i := i) (en := en) (na := na) (t := t) (c := c) (c' := c) (nd := nd) (j := j) (ru := ru) (to := b2) hw hb2.2 (by omega) hs hg h
      refine ⟨cL nd (8 * pl + i) en t na n' w (nI (b2 + 1) - 1) (nI c.toNat) (nI j) ru, g', ?_, fun _ => ⟨n', ch', ru, rfl, e3, e2⟩⟩
      refine (if_pos (show nI b2 < nI w from nI_lt (by omega) (by omega))).trans ?_
      exact (bind_eq e1).trans rfl
  · rw [if_neg q0, if_neg q0]
    have hto : (nI b1 + iI (m.2 - 2)) - 3 = iI ((b1 : Int) + m.2 - 5) := by
      rw [nI_iI, iI_add, show (3 : Int32) = iI 3 from rfl, iI_sub]; congr 1; omega
    rw [hto]
    unfold ex_LineReader_shift
    have hle : iI ((b1 : Int) + m.2 - 5) ≤ nI s - 1 ↔ (b1 : Int) + m.2 - 5 < s := by
      rw [Int32.le_iff_toInt_le, iI_toInt (by omega), show (1 : Int32) = nI 1 from rfl, nI_sub_toInt (by omega) (by omega)]; omega
    have hle2 : iI ((b1 : Int) + m.2 - 5) ≤ nI w ↔ (b1 : Int) + m.2 - 5 ≤ w := by rw [nI_iI]; exact iI_le (by omega) (by omega)
    by_cases q1 : (b1 : Int) + m.2 - 5 < s
    · rw [if_pos (Or.inl q1)]
      refine ⟨cL nd (8 * pl + i) en t na n w (nI s - 1) (nI c.toNat) (nI j) ru, gl, ?_, fun h => absurd h (by show ¬ 4 = 0; omega)⟩
      exact if_pos (hle.mpr q1)
    · by_cases q2 : (w : Int) < b1 + m.2 - 5
      · rw [if_pos (Or.inr q2)]
        refine ⟨cL nd (8 * pl + i) en t na n w (nI s - 1) (nI c.toNat) (nI j) ru, gl, ?_, fun h => absurd h (by show ¬ 4 = 0; omega)⟩
        exact (if_neg (mt hle.mp q1)).trans (if_neg (mt hle2.mp (by omega)))
      · rw [if_neg (by omega)]
        obtain ⟨z, hz⟩ : ∃ z : Nat, (b1 : Int) + m.2 - 5 = z := ⟨((b1 : Int) + m.2 - 5).toNat, by omega⟩
        rw [hz] at hle hle2 ⊢
        have et : (z : Int).toNat = z := by omega
        rw [et]
        obtain ⟨n', ch', g', e1, e2, e3⟩ := cp_one (N := N) (pl := pl) (i := i) (en := en) (na := na) (t := t) (c := c) (c' := c) (nd := nd) (j := j) (ru := ru) (to := z) hw (by omega) (by omega) hs hg h
        refine ⟨cL nd (8 * pl + i) en t na n' w (nI (z + 1) - 1) (nI (!c).toNat) (nI j) ru, g', ?_, fun _ => ⟨n', ch', ru, rfl, e3, e2⟩⟩
        refine (if_neg (mt hle.mp (by omega))).trans ?_
        refine (if_pos (hle2.mpr (by omega))).trans ?_
        refine (bind_eq e1).trans ?_
        show some (fs_LineReader_colour (cL nd (8 * pl + i) en t na n' w (nI (z + 1) - 1) (nI c.toNat) (nI j) ru) (1 - nI c.toNat), g', 0) = _
        rw [nI_not]; rfl
/-- two runs -/
theorem cp_acr {N nB0 en pl nB na w s n j i : Nat} {t c : Bool} {nd ru : Int32} {g tr gl : Nat → Int32} {ch : Nat → Nat} {p : Nat → Bool} (hN : 20000 < N) (hw : w ≤ 10000) (hs : s ≤ w) (hpl : pl + nB ≤ nB0) (hn0 : nB0 ≤ 65536) (hen : en = 8 * (pl + nB)) (htr : agree 1024 tr trT) (hi : i ≤ 8 * nB) (hg : chA n gl ch) (h : isCh (s - 1) n ch p) :
    cpO nd pl en t na w s c j p (if (runA (sbit t g pl) (8 * nB) w c (s - 1) i).2.2 = 0 then
      (if (runA (sbit t g pl) (8 * nB) w (!c) (s - 1 + (runA (sbit t g pl) (8 * nB) w c (s - 1) i).2.1) (runA (sbit t g pl) (8 * nB) w c (s - 1) i).1).2.2 = 0 then
        (if (runA (sbit t g pl) (8 * nB) w c (s - 1) i).2.1 + (runA (sbit t g pl) (8 * nB) w (!c) (s - 1 + (runA (sbit t g pl) (8 * nB) w c (s - 1) i).2.1) (runA (sbit t g pl) (8 * nB) w c (s - 1) i).1).2.1 = 0 then ((runA (sbit t g pl) (8 * nB) w (!c) (s - 1 + (runA (sbit t g pl) (8 * nB) w c (s - 1) i).2.1) (runA (sbit t g pl) (8 * nB) w c (s - 1) i).1).1, 6, s, c, 0)
        else ((runA (sbit t g pl) (8 * nB) w (!c) (s - 1 + (runA (sbit t g pl) (8 * nB) w c (s - 1) i).2.1) (runA (sbit t g pl) (8 * nB) w c (s - 1) i).1).1, 0, s - 1 + (runA (sbit t g pl) (8 * nB) w c (s - 1) i).2.1 + (runA (sbit t g pl) (8 * nB) w (!c) (s - 1 + (runA (sbit t g pl) (8 * nB) w c (s - 1) i).2.1) (runA (sbit t g pl) (8 * nB) w c (s - 1) i).1).2.1 + 1, c, s - 1 + (runA (sbit t g pl) (8 * nB) w c (s - 1) i).2.1))
      else ((runA (sbit t g pl) (8 * nB) w (!c) (s - 1 + (runA (sbit t g pl) (8 * nB) w c (s - 1) i).2.1) (runA (sbit t g pl) (8 * nB) w c (s - 1) i).1).1, (runA (sbit t g pl) (8 * nB) w (!c) (s - 1 + (runA (sbit t g pl) (8 * nB) w c (s - 1) i).2.1) (runA (sbit t g pl) (8 * nB) w c (s - 1) i).1).2.2, s, c, 0))
    else ((runA (sbit t g pl) (8 * nB) w c (s - 1) i).1, (runA (sbit t g pl) (8 * nB) w c (s - 1) i).2.2, s, c, 0)) (ex_LineReader_goAcross N (cL nd (8 * pl + i) en t na n w (nI s - 1) (nI c.toNat) (nI j) ru) tr nB0 g gl) := by
  have r1 := lr_readRun (N := N) (c := c) (g := g) (t := t) (nd0 := nd) (ac := na) (lc := n) (a := nI s - 1) (co := nI c.toNat) (ov := nI j) (ru := ru) (x0 := s - 1) (by omega) hw (by omega) hpl hn0 hen htr hi
  have b1 := rrA_b (sbit t g pl) (8 * nB) (if c then brWd else wrWd) (if c then bbWd else wbWd) lbWd w (s - 1) 200 0 i hi (by omega)
  have e0 : runA (sbit t g pl) (8 * nB) w c (s - 1) i = rrA (sbit t g pl) (8 * nB) (if c then brWd else wrWd) (if c then bbWd else wbWd) lbWd w (s - 1) 200 0 i := rfl
  rw [← e0] at r1 b1
  obtain ⟨R1, hR1⟩ : ∃ R, R = runA (sbit t g pl) (8 * nB) w c (s - 1) i := ⟨_, rfl⟩
  rw [← hR1] at r1 b1 ⊢
  have hfrom : (if fd_LineReader_a (cL nd (8 * pl + i) en t na n w (nI s - 1) (nI c.toNat) (nI j) ru) < 0 then (0 : Int32) else fd_LineReader_a (cL nd (8 * pl + i) en t na n w (nI s - 1) (nI c.toNat) (nI j) ru)) = nI (s - 1) := by
    show (if nI s - 1 < 0 then (0 : Int32) else nI s - 1) = _
    by_cases q : s = 0
    · subst q; rfl
    · rw [if_neg (show ¬ nI s - 1 < 0 by rw [show nI s - 1 = nI (s - 1) from nI_sub (b := 1) (by omega)]; exact nI_pos (by omega))]
      exact nI_sub (b := 1) (by omega)
  unfold ex_LineReader_goAcross
  rw [hfrom]
  unfold dk_let
  refine Eq.mpr (congrArg (cpO nd pl en t na w s c j p _) (bind_eq r1)) ?_
  by_cases q1 : R1.2.2 = 0
  · rw [if_pos q1]
    refine Eq.mpr (congrArg (cpO nd pl en t na w s c j p _) (if_pos (show nI R1.2.2 = 0 by rw [q1]; rfl))) ?_
    have bb1 := b1.2.2.2.2 q1
    have r2 := lr_readRun (N := N) (c := !c) (g := g) (t := t) (nd0 := nd) (ac := na) (lc := n) (a := nI s - 1) (co := nI c.toNat) (ov := nI j) (ru := nI R1.2.1) (x0 := s - 1 + R1.2.1) (i := R1.1) (by omega) hw bb1 hpl hn0 hen htr b1.2.1
    have b2 := rrA_b (sbit t g pl) (8 * nB) (if !c then brWd else wrWd) (if !c then bbWd else wbWd) lbWd w (s - 1 + R1.2.1) 200 0 R1.1 b1.2.1 bb1
    have e1 : runA (sbit t g pl) (8 * nB) w (!c) (s - 1 + R1.2.1) R1.1 = rrA (sbit t g pl) (8 * nB) (if !c then brWd else wrWd) (if !c then bbWd else wbWd) lbWd w (s - 1 + R1.2.1) 200 0 R1.1 := rfl
    rw [← e1] at r2 b2
    obtain ⟨R2, hR2⟩ : ∃ R, R = runA (sbit t g pl) (8 * nB) w (!c) (s - 1 + R1.2.1) R1.1 := ⟨_, rfl⟩
    rw [← hR2] at r2 b2 ⊢
    have hsum : nI (s - 1) + nI R1.2.1 = nI (s - 1 + R1.2.1) := nI_add _ _
    have hcol : (1 : Int32) - nI c.toNat = nI (!c).toNat := nI_not c
    have r2' : ex_LineReader_readRun N (cL nd (8 * pl + R1.1) en t na n w (nI s - 1) (nI c.toNat) (nI j) (nI R1.2.1)) tr nB0 g (nI (s - 1) + nI R1.2.1) (1 - nI c.toNat) = some (cL nd (8 * pl + R2.1) en t na n w (nI s - 1) (nI c.toNat) (nI j) (nI R2.2.1), nI R2.2.2) := by
      rw [hsum, hcol]; exact r2
    refine Eq.mpr (congrArg (cpO nd pl en t na w s c j p _) (bind_eq r2')) ?_
    by_cases q2 : R2.2.2 = 0
    · rw [if_pos q2]
      have bb2 := b2.2.2.2.2 q2
      refine Eq.mpr (congrArg (cpO nd pl en t na w s c j p _) (if_pos (show nI R2.2.2 = 0 by rw [q2]; rfl))) ?_
      have hz : (nI (s - 1) + nI R1.2.1) + nI R2.2.1 = nI (s - 1) ↔ R1.2.1 + R2.2.1 = 0 := by
        rw [hsum, nI_add, nI_eq (by omega) (by omega)]; omega
      by_cases q3 : R1.2.1 + R2.2.1 = 0
      · rw [if_pos q3]
        refine Eq.mpr (congrArg (cpO nd pl en t na w s c j p _) (if_pos (hz.mpr q3))) ?_
        exact ⟨_, gl, rfl, fun h => absurd h (by show ¬ 6 = 0; omega)⟩
      · rw [if_neg q3]
        refine Eq.mpr (congrArg (cpO nd pl en t na w s c j p _) (if_neg (mt hz.mp q3))) ?_
        have h' : isCh (s - 1) n ch (spA s c (s - 1 + R1.2.1) (s - 1 + R1.2.1 + R2.2.1 + 1) p) := isCh_congr h (fun y hy => sp_low (by omega) hy)
        obtain ⟨n1, ch1, g1, f1, f2, f3⟩ := lr_span (N := N) (at_ := 8 * pl + R2.1) (en := en) (ac := na) (t := t) (c := c) (nd := nd) (co := nI c.toNat) (ov := nI j) (ru := nI R2.2.1) (to := s - 1 + R1.2.1) hw (by omega) (by omega) (by omega) hg h' (fun y h1 h2 => by unfold spA; rw [if_pos ⟨h1, h2⟩])
        obtain ⟨n2, ch2, g2, f4, f5, f6⟩ := lr_span (N := N) (s := s - 1 + R1.2.1 + 1) (at_ := 8 * pl + R2.1) (en := en) (ac := na) (t := t) (c := !c) (nd := nd) (co := nI c.toNat) (ov := nI j) (ru := nI R2.2.1) (to := s - 1 + R1.2.1 + R2.2.1) hw (by omega) (by omega) (by omega) f3 f2 (fun y h1 h2 => by unfold spA; rw [if_neg (by omega), if_pos (by omega)])
        have f4' : ex_LineReader_spanTo N (cL nd (8 * pl + R2.1) en t na n1 w (nI (s - 1 + R1.2.1)) (nI c.toNat) (nI j) (nI R2.2.1)) g1 (nI (s - 1 + R1.2.1 + R2.2.1)) (nI (!c).toNat) = some (cL nd (8 * pl + R2.1) en t na n2 w (nI (s - 1 + R1.2.1 + R2.2.1)) (nI c.toNat) (nI j) (nI R2.2.1), g2) := by
          rw [show nI (s - 1 + R1.2.1 + 1) - 1 = nI (s - 1 + R1.2.1) from nI_sub (a := s - 1 + R1.2.1 + 1) (b := 1) (by omega)] at f4
          exact f4
        refine ⟨cL nd (8 * pl + R2.1) en t na n2 w (nI (s - 1 + R1.2.1 + R2.2.1)) (nI c.toNat) (nI j) (nI R2.2.1), g2, ?_, fun _ => ⟨n2, ch2, nI R2.2.1, ?_, f6, f5⟩⟩
        · show (ex_LineReader_spanTo N (cL nd (8 * pl + R2.1) en t na n w (nI s - 1) (nI c.toNat) (nI j) (nI R2.2.1)) gl (nI (s - 1) + nI R1.2.1) (nI c.toNat)).bind _ = _
          rw [hsum]
          refine (bind_eq f1).trans ?_
          show (ex_LineReader_spanTo N (cL nd (8 * pl + R2.1) en t na n1 w (nI (s - 1 + R1.2.1)) (nI c.toNat) (nI j) (nI R2.2.1)) g1 ((nI (s - 1) + nI R1.2.1) + nI R2.2.1) (1 - nI c.toNat)).bind _ = _
          rw [hsum, nI_add, hcol]
          exact (bind_eq f4').trans rfl
        · show _ = cL nd (8 * pl + R2.1) en t na n2 w (nI (s - 1 + R1.2.1 + R2.2.1 + 1) - 1) (nI c.toNat) (nI j) (nI R2.2.1)
          rw [show nI (s - 1 + R1.2.1 + R2.2.1 + 1) - 1 = nI (s - 1 + R1.2.1 + R2.2.1) from nI_sub (a := s - 1 + R1.2.1 + R2.2.1 + 1) (b := 1) (by omega)]
    · rw [if_neg q2]
      refine Eq.mpr (congrArg (cpO nd pl en t na w s c j p _) (if_neg (show ¬ nI R2.2.2 = 0 from mt (nI_eq (b := 0) (by omega) (by omega)).mp q2))) ?_
      exact ⟨_, gl, rfl, fun h => absurd h q2⟩
  · rw [if_neg q1]
    refine Eq.mpr (congrArg (cpO nd pl en t na w s c j p _) (if_neg (show ¬ nI R1.2.2 = 0 from mt (nI_eq (b := 0) (by omega) (by omega)).mp q1))) ?_
    exact ⟨_, gl, rfl, fun h => absurd h q1⟩
/-- what goes on behind a piece, in the class -/
def cK (N : Nat) (tr : Nat → Int32) (nB0 : Nat) (g : Nat → Int32) (v0 : Int32) (ga : Nat → Int32) (rec_ : Int32 → Int32 → (Nat → Int32) → ob_LineReader → Option (((Nat → Int32) × ob_LineReader) ⊕ rs_LineReader_readLine)) (w3 : Int32) (u : ob_LineReader × (Nat → Int32) × Int32) : Option (((Nat → Int32) × ob_LineReader) ⊕ rs_LineReader_readLine) := if u.2.2 = (0 : Int32) then (if (fd_LineReader_a u.1) < v0 then ((ex_LineReader_nextWord N u.1 nB0 g tr (1 : Int32)).bind (fun x => rec_ (w3 + 1) x.2 u.2.1 x.1)) else (some (Sum.inr (u.1, ga, u.2.1, u.2.2)))) else (some (Sum.inr (u.1, ga, u.2.1, u.2.2)))
theorem ch_b2 {w n : Nat} {ch : Nat → Nat} {p : Nat → Bool} (h : isCh w n ch p) {j s : Nat} (hj : j ≤ n) (h1 : j = 0 ∨ ch (j - 1) < s) (h2 : s ≤ chx w n ch j) (hs : s ≤ w) (c : Bool) : b2A w p s c = chx w n ch (bNo j c + 1) := by
  have e1 : b1A w p s c = chx w n ch (bNo j c) := ch_b1 h hj h1 h2 c
  have hb := b1A_b (w := w) (s := s) (up := p) (c := c) hs
  unfold b2A
  rw [e1] at hb ⊢
  have hbp : c = decide (bNo j c % 2 = 1) := by
    unfold bNo
    by_cases q : c = decide (j % 2 = 1)
    · rw [if_pos q]; exact q
    · rw [if_neg q]
      by_cases q2 : j % 2 = 1
      · rw [decide_eq_false (show ¬ (j + 1) % 2 = 1 by omega)]; rw [decide_eq_true q2] at q; cases c <;> simp_all
      · rw [decide_eq_true (show (j + 1) % 2 = 1 by omega)]; rw [decide_eq_false q2] at q; cases c <;> simp_all
  obtain ⟨b, hbe⟩ : ∃ b, b = bNo j c := ⟨_, rfl⟩
  rw [← hbe] at hbp hb ⊢
  by_cases hbn : b < n
  · have hlt := chx_lt h hbn
    have hle := chx_le h (b + 1)
    have hx : chx w n ch b = ch b := by unfold chx; rw [if_pos hbn]
    have hcw := h.1 b hbn
    rw [if_neg (by rw [hx]; omega)]
    have := ch_dot h (j := b + 1) (s := chx w n ch b + 1) (by omega) (Or.inr (by rw [show b + 1 - 1 = b by omega, hx]; omega)) (by omega) (!c) (by
      rw [hbp]
      by_cases hp : b % 2 = 1
      · rw [decide_eq_true hp, decide_eq_false (show ¬ (b + 1) % 2 = 1 by omega)]; rfl
      · rw [decide_eq_false hp, decide_eq_true (show (b + 1) % 2 = 1 by omega)]; rfl)
    rw [Bool.not_not] at this
    exact this
  · have hx : chx w n ch b = w := by unfold chx; rw [if_neg hbn]
    have hx2 : chx w n ch (b + 1) = w := by unfold chx; rw [if_neg (by omega)]
    rw [hx, hx2, if_pos rfl]
theorem lr_loop {N nB0 en pl nB na w : Nat} {t : Bool} {nd : Int32} {g tr ga : Nat → Int32} {ca : Nat → Nat} {up : Nat → Bool} {u1 : rs_LineReader_turnOver} (hN : 20000 < N) (hw : w ≤ 10000) (hpl : pl + nB ≤ nB0) (hn0 : nB0 ≤ 65536) (hen : en = 8 * (pl + nB)) (htr : agree 1024 tr trT) (hu1 : u1.2.2 = ga) (hga : chA na ga ca) (hup : isCh w na ca up) :
    ∀ (k s : Nat) (c : Bool) (i : Nat) (p : Nat → Bool) (lc : Nat) (ch : Nat → Nat) (gl : Nat → Int32) (ov : Nat) (ru : Int32) (n j : Nat), w + 2 ≤ s + k → s ≤ w → j ≤ s → k < n → i ≤ 8 * nB → (modA (sbit t g pl) (8 * nB) s i).2 ≠ 9 → chA lc gl ch → isCh (s - 1) lc ch p → ov ≤ na → (ov = 0 ∨ ca (ov - 1) < s) →
    ∃ o' gl', lp_LineReader_readLine_41 N tr nB0 g (nI w) u1 n (nI j) (iI (cmR (modA (sbit t g pl) (8 * nB) s i)).2) gl (cL nd (8 * pl + (modA (sbit t g pl) (8 * nB) s i).1) en t na lc w (nI s - 1) (nI c.toNat) (nI ov) ru) = some (Sum.inr (o', ga, gl', nI (lnA (sbit t g pl) (8 * nB) w up k s c i p).2.1)) ∧ ((lnA (sbit t g pl) (8 * nB) w up k s c i p).2.1 = 0 → ∃ (lc' : Nat) (cl' : Nat → Nat) (a' co' ov' ru' : Int32), o' = cL nd (8 * pl + (lnA (sbit t g pl) (8 * nB) w up k s c i p).1) en t na lc' w a' co' ov' ru' ∧ chA lc' gl' cl' ∧ isCh w lc' cl' (lnA (sbit t g pl) (8 * nB) w up k s c i p).2.2) := by
  have hna := isCh_le hup
  intro k
  induction k with
  | zero => intro s c i p lc ch gl ov ru n j hk hs; exact absurd hk (by omega)
  | succ k ih =>
    intro s c i p lc ch gl ov ru n j hk hs hj hn hi h9 hg h hov1 hov2
    obtain ⟨n, rfl⟩ : ∃ z, n = z + 1 := ⟨n - 1, by omega⟩
    have hmb := mdA_b (sbit t g pl) (8 * nB) moWd (if s = 0 then 10 else 9) 14 1 i hi
    have em : modA (sbit t g pl) (8 * nB) s i = mdA (sbit t g pl) (8 * nB) moWd (if s = 0 then 10 else 9) 14 1 i := rfl
    have hpb := pcA_b (bit := sbit t g pl) (nb := 8 * nB) (up := up) (c := c) hi hs
    have hpcA : pcA (sbit t g pl) (8 * nB) w up s c i = pcB (sbit t g pl) (8 * nB) w up s c (modA (sbit t g pl) (8 * nB) s i) := by unfold pcA; rw [if_neg h9]
    rw [← em] at hmb
    rw [lnA, if_neg (show ¬ w < s by omega)]
    rw [hpcA] at hpb ⊢
    obtain ⟨m, hm⟩ : ∃ m, m = modA (sbit t g pl) (8 * nB) s i := ⟨_, rfl⟩
    rw [← hm] at hmb h9 hpb ⊢
    have hm8 : m.2 ≤ 8 := by
      have := hmb.2.2.2
      by_cases q : s = 0
      · rw [if_pos q] at this; omega
      · rw [if_neg q] at this; omega
    obtain ⟨j', f1, f2, f3, f4⟩ := lr_first (N := N) (nd := nd) (at_ := 8 * pl + m.1) (en := en) (t := t) (c := c) (lc := lc) (ru := ru) hN hga hup hw hs hov1 hov2
    have hb1e : b1A w up s c = chx w na ca (bNo j' c) := ch_b1 hup f2 f3 f4 c
    have hb2e : b2A w up s c = chx w na ca (bNo j' c + 1) := ch_b2 hup f2 f3 f4 hs c
    have hb1 := b1A_b (w := w) (s := s) (up := up) (c := c) hs
    have hb2 := b2A_b (w := w) (s := s) (up := up) (c := c) hs
    have hbno : bNo j' c ≤ 10001 := by unfold bNo; split <;> omega
    obtain ⟨R, hR⟩ : ∃ R, R = pcB (sbit t g pl) (8 * nB) w up s c m := ⟨_, rfl⟩
    rw [← hR] at hpb ⊢
    -- behind a piece
    have hK : ∀ (u : Option (ob_LineReader × (Nat → Int32) × Int32)), cpO nd pl en t na w s c j' p R u → ∃ o' gl', u.bind (cK N tr nB0 g (nI w) ga (lp_LineReader_readLine_41 N tr nB0 g (nI w) u1 n) (nI j)) = some (Sum.inr (o', ga, gl', nI (if R.2.1 = 0 then lnA (sbit t g pl) (8 * nB) w up k R.2.2.1 R.2.2.2.1 R.1 (spA s c R.2.2.2.2 R.2.2.1 p) else (R.1, R.2.1, p)).2.1)) ∧ ((if R.2.1 = 0 then lnA (sbit t g pl) (8 * nB) w up k R.2.2.1 R.2.2.2.1 R.1 (spA s c R.2.2.2.2 R.2.2.1 p) else (R.1, R.2.1, p)).2.1 = 0 → ∃ (lc' : Nat) (cl' : Nat → Nat) (a' co' ov' ru' : Int32), o' = cL nd (8 * pl + (if R.2.1 = 0 then lnA (sbit t g pl) (8 * nB) w up k R.2.2.1 R.2.2.2.1 R.1 (spA s c R.2.2.2.2 R.2.2.1 p) else (R.1, R.2.1, p)).1) en t na lc' w a' co' ov' ru' ∧ chA lc' gl' cl' ∧ isCh w lc' cl' (if R.2.1 = 0 then lnA (sbit t g pl) (8 * nB) w up k R.2.2.1 R.2.2.2.1 R.1 (spA s c R.2.2.2.2 R.2.2.1 p) else (R.1, R.2.1, p)).2.2) := by
      intro u hu
      obtain ⟨o1, gl1, e1, e2⟩ := hu
      rw [e1, Option.bind_some]
      unfold cK
      by_cases q0 : R.2.1 = 0
      · obtain ⟨lc1, cl1, ru1, e3, e4, e5⟩ := e2 q0
        obtain ⟨b1, b2, b3, b4⟩ := hpb.2.2 q0
        rw [if_pos q0, q0]
        have hlt : (fd_LineReader_a o1 < nI w) ↔ R.2.2.1 ≤ w := by
          rw [e3]
          show nI R.2.2.1 - 1 < nI w ↔ _
          rw [Int32.lt_iff_toInt_lt, show (1 : Int32) = nI 1 from rfl, nI_sub_toInt (by omega) (by omega), nI_toInt (by omega)]; omega
        by_cases q1 : R.2.2.1 ≤ w
        · have hmo := lr_mode (N := N) (t := t) (nd0 := nd) (ac := na) (lc := lc1) (w := w) (a := nI R.2.2.1 - 1) (co := nI R.2.2.2.1.toNat) (ov := nI j') (ru := ru1) (g := g) (i := R.1) false (by omega) hpl hn0 hen htr hpb.1
          have em' : modA (sbit t g pl) (8 * nB) R.2.2.1 R.1 = mdA (sbit t g pl) (8 * nB) moWd 9 14 1 R.1 := by unfold modA; rw [if_neg (by omega)]
          have hmb' := mdA_b (sbit t g pl) (8 * nB) moWd 9 14 1 R.1 hpb.1
          obtain ⟨o2, gl2, i1, i2⟩ := ih R.2.2.1 R.2.2.2.1 R.1 (spA s c R.2.2.2.2 R.2.2.1 p) lc1 cl1 gl1 j' ru1 n (j + 1) (by omega) q1 (by omega) (by omega) hpb.1 (by rw [em']; have := hmb'.2.2.2; omega) e4 e5 f2 (by rcases f3 with q | q; left; exact q; right; omega)
          refine ⟨o2, gl2, ?_, i2⟩
          refine (if_pos (show nI 0 = 0 from rfl)).trans ?_
          refine (if_pos (hlt.mpr q1)).trans ?_
          rw [e3]
          refine (bind_eq hmo).trans ?_
          rw [em', ← nI_1 j] at i1
          exact i1
        · have hlast : lnA (sbit t g pl) (8 * nB) w up k R.2.2.1 R.2.2.2.1 R.1 (spA s c R.2.2.2.2 R.2.2.1 p) = (R.1, 0, spA s c R.2.2.2.2 R.2.2.1 p) := by
            obtain ⟨k, rfl⟩ : ∃ z, k = z + 1 := ⟨k - 1, by omega⟩
            rw [lnA, if_pos (by omega)]
          rw [hlast]
          refine ⟨o1, gl1, ?_, fun _ => ⟨lc1, cl1, nI R.2.2.1 - 1, nI R.2.2.2.1.toNat, nI j', ru1, e3, e4, ?_⟩⟩
          · refine (if_pos (show nI 0 = 0 from rfl)).trans ?_
            exact if_neg (mt hlt.mp q1)
          · rw [show R.2.2.1 - 1 = w by omega] at e5; exact e5
      · rw [if_neg q0]
        refine ⟨o1, gl1, ?_, fun h => absurd h q0⟩
        exact if_neg (show ¬ nI R.2.1 = 0 from mt (nI_eq (b := 0) (by omega) (by omega)).mp q0)
    rw [lp_LineReader_readLine_41, if_neg (show ¬ nI w < nI j from nI_nlt (by omega) (by omega)), hu1]
    refine (fun hh => ?_) f1
    rw [show ex_LineReader_firstAbove N (cL nd (8 * pl + m.1) en t na lc w (nI s - 1) (nI c.toNat) (nI ov) ru) ga = _ from f1, Option.bind_some]
    by_cases qn : m.2 < 0
    · have hw2 : (cmR m).2 = m.2 := by unfold cmR; exact if_neg (by omega)
      have hRe : R = (m.1, fC m.2, s, c, 0) := by rw [hR]; unfold pcB; rw [if_pos qn]
      have hfe : 1 ≤ fC m.2 ∧ fC m.2 ≤ 2 := by unfold fC; split; omega; split <;> omega
      rw [hw2, hRe]
      have hneg : -iI m.2 = nI (fC m.2) := by
        have : m.2 = -1 ∨ m.2 = -2 := by have := hmb.2.2.1; omega
        rcases this with e | e <;> rw [e] <;> rfl
      rw [if_neg (show ¬ (0 : Int32) ≤ iI m.2 from mt (iI_le (a := 0) (by omega) (by omega)).mp (by omega)), hneg, if_neg (show ¬ nI (fC m.2) = 0 from mt (nI_eq (b := 0) (by omega) (by omega)).mp (by omega)), if_neg (show ¬ (m.1, fC m.2, s, c, 0).2.1 = 0 by show ¬ fC m.2 = 0; omega)]
      exact ⟨_, gl, rfl, fun h => absurd h (by show ¬ fC m.2 = 0; omega)⟩
    · have hw2 : (cmR m).2 = cmN m.2 := by unfold cmR; exact if_pos (by omega)
      have hcb := cmN_b (k := m.2) (by omega) (by omega)
      rw [hw2, if_pos (show (0 : Int32) ≤ iI (cmN m.2) from (iI_le (a := 0) (by omega) (by omega)).mpr hcb.1)]
      by_cases q1 : m.2 = 1
      · have hc1 : cmN m.2 = 21 := by rw [q1]; rfl
        rw [hc1, if_neg (show ¬ iI 21 = 20 by decide), if_pos (show iI 21 = 21 from rfl)]
        have hRe : R = _ := hR
        unfold pcB at hRe
        rw [if_neg qn, if_pos q1] at hRe
        have hcp := cp_acr (N := N) (nB0 := nB0) (en := en) (pl := pl) (nB := nB) (na := na) (w := w) (s := s) (n := lc) (j := j') (i := m.1) (t := t) (c := c) (nd := nd) (ru := ru) (g := g) (tr := tr) (gl := gl) (ch := ch) (p := p) hN hw hs hpl hn0 hen htr hmb.2.1 hg h
        rw [← hRe] at hcp
        exact hK _ hcp
      · have hRe : R = _ := hR
        unfold pcB at hRe
        rw [if_neg qn, if_neg q1] at hRe
        have hcp := cp_fin (N := N) (pl := pl) (en := en) (na := na) (w := w) (s := s) (n := lc) (j := j') (i := m.1) (t := t) (c := c) (nd := nd) (ru := ru) (gl := gl) (ch := ch) (p := p) (m := m) hw hs (by omega) hm8 q1 hg h (b1A w up s c) (b2A w up s c) hb1 ⟨hb2.1, hb2.2.1⟩
        rw [← hRe] at hcp
        by_cases q0 : m.2 = 0
        · have hc1 : cmN m.2 = 20 := by rw [q0]; rfl
          rw [hc1, if_pos (show iI 20 = 20 from rfl)]
          rw [if_pos q0] at hcp
          have hca := sm_changeAt (N := N) (w := w) (i := bNo j' c + 1) hga (by omega) (by omega)
          have hca' : ex_Coder_changeAt N 10000 ga (nI na) (nI (bNo j' c) + 1) (nI w) = some (nI (b2A w up s c)) := by
            rw [nI_1, hca, hb2e]
          obtain ⟨o2, gl2, k1, k2⟩ := hK _ hcp
          refine ⟨o2, gl2, ?_, k2⟩
          refine (bind_eq hca').trans ?_
          exact k1
        · have hc1 : cmN m.2 = m.2 - 2 := by unfold cmN; rw [if_neg q0, if_neg q1, if_neg (by omega)]
          rw [hc1, if_neg (show ¬ iI (m.2 - 2) = 20 from mt (iI_eq (b := 20) (by omega) (by omega)).mp (by omega)), if_neg (show ¬ iI (m.2 - 2) = 21 from mt (iI_eq (b := 21) (by omega) (by omega)).mp (by omega))]
          rw [if_neg q0] at hcp
          have hca := sm_changeAt (N := N) (w := w) (i := bNo j' c) hga (by omega) (by omega)
          have hca' : ex_Coder_changeAt N 10000 ga (nI na) (nI (bNo j' c)) (nI w) = some (nI (b1A w up s c)) := by
            rw [hca, hb1e]
          obtain ⟨o2, gl2, k1, k2⟩ := hK _ hcp
          refine ⟨o2, gl2, ?_, k2⟩
          refine (bind_eq hca').trans ?_
          exact k1
/-- **a line, as the class reads it** -/
theorem lr_read {N nB0 en pl nB ac lc w w0 i : Nat} {t : Bool} {nd a co ov ru : Int32} {g tr gA gL : Nat → Int32} {cl : Nat → Nat} {up : Nat → Bool} (hN : 20000 < N) (hw : w ≤ 10000) (hpl : pl + nB ≤ nB0) (hn0 : nB0 ≤ 65536) (hen : en = 8 * (pl + nB)) (htr : agree 1024 tr trT) (hi : i ≤ 8 * nB) (hgl : chA lc gL cl) (hup : isCh w lc cl up) : ∃ o' gl', ex_LineReader_readLine N (cL nd (8 * pl + i) en t ac lc w0 a co ov ru) gA gL tr nB0 g (nI w) = some (o', gL, gl', nI (lineA (sbit t g pl) (8 * nB) w up i).2.1) ∧ ((lineA (sbit t g pl) (8 * nB) w up i).2.1 = 0 → ∃ (lc' : Nat) (cl' : Nat → Nat) (a' co' ov' ru' : Int32), o' = cL nd (8 * pl + (lineA (sbit t g pl) (8 * nB) w up i).1) en t lc lc' w a' co' ov' ru' ∧ chA lc' gl' cl' ∧ isCh w lc' cl' (lineA (sbit t g pl) (8 * nB) w up i).2.2) := by
  have hto : ex_LineReader_turnOver N (fs_LineReader_width (cL nd (8 * pl + i) en t ac lc w0 a co ov ru) (nI w)) gL gA = some (cL nd (8 * pl + i) en t lc 0 w (nI 0 - 1) (nI false.toNat) (nI 0) ru, gA, gL) := rfl
  have hmo := lr_mode (N := N) (t := t) (nd0 := nd) (ac := lc) (lc := 0) (w := w) (a := nI 0 - 1) (co := nI false.toNat) (ov := nI 0) (ru := ru) (g := g) (i := i) true (by omega) hpl hn0 hen htr hi
  have em : modA (sbit t g pl) (8 * nB) 0 i = mdA (sbit t g pl) (8 * nB) moWd (if true then 10 else 9) 14 1 i := rfl
  have hmb := mdA_b (sbit t g pl) (8 * nB) moWd (if true then 10 else 9) 14 1 i hi
  rw [← em] at hmo hmb
  unfold ex_LineReader_readLine
  rw [hto, Option.bind_some]
  have hmo' : ex_LineReader_nextWord N (cL nd (8 * pl + i) en t lc 0 w (nI 0 - 1) (nI false.toNat) (nI 0) ru) nB0 g tr 0 = _ := hmo
  rw [hmo', Option.bind_some]
  obtain ⟨m, hm⟩ : ∃ m, m = modA (sbit t g pl) (8 * nB) 0 i := ⟨_, rfl⟩
  rw [← hm] at hmb ⊢
  by_cases q9 : m.2 = 9
  · have hw2 : (cmR m).2 = 22 := by unfold cmR; rw [if_pos (show 0 ≤ m.2 by omega), q9]; rfl
    rw [hw2]
    have he := lr_end (N := N) (t := t) (nd0 := nd) (ac := lc) (lc := 0) (w := w) (a := nI 0 - 1) (co := nI false.toNat) (ov := nI 0) (ru := ru) (g := g) (i := m.1) (by omega) hpl hn0 hen htr hmb.2.1
    have ee : endA (sbit t g pl) (8 * nB) m.1 = mdA (sbit t g pl) (8 * nB) l1N 1 14 1 m.1 := rfl
    have heb := mdA_b (sbit t g pl) (8 * nB) l1N 1 14 1 m.1 hmb.2.1
    rw [← ee] at he heb
    have hL : (lineA (sbit t g pl) (8 * nB) w up i).2.1 = if (endA (sbit t g pl) (8 * nB) m.1).2 < 0 then fC (endA (sbit t g pl) (8 * nB) m.1).2 else 7 := by
      unfold lineA
      rw [lnA, if_neg (by omega)]
      have hp : pcA (sbit t g pl) (8 * nB) w up 0 false i = ((endA (sbit t g pl) (8 * nB) m.1).1, if (endA (sbit t g pl) (8 * nB) m.1).2 < 0 then fC (endA (sbit t g pl) (8 * nB) m.1).2 else 7, 0, false, 0) := by
        unfold pcA; rw [← hm, if_pos q9]
      rw [hp]
      have hne : ¬ (if (endA (sbit t g pl) (8 * nB) m.1).2 < 0 then fC (endA (sbit t g pl) (8 * nB) m.1).2 else 7) = 0 := by
        by_cases q : (endA (sbit t g pl) (8 * nB) m.1).2 < 0
        · rw [if_pos q]
          unfold fC
          by_cases q2 : (endA (sbit t g pl) (8 * nB) m.1).2 = -1
          · rw [if_pos q2]; decide
          · rw [if_neg q2, if_pos (by omega)]; decide
        · rw [if_neg q]; decide
      rw [if_neg hne]
    obtain ⟨e, hee⟩ : ∃ e, e = endA (sbit t g pl) (8 * nB) m.1 := ⟨_, rfl⟩
    rw [← hee] at he heb hL
    refine (fun hh => ?_) he
    show ∃ o' gl', (if iI 22 = 22 then _ else _) = _ ∧ _
    rw [if_pos (show iI 22 = 22 from rfl)]
    show ∃ o' gl', (ex_LineReader_nextWord N (cL nd (8 * pl + m.1) en t lc 0 w (nI 0 - 1) (nI false.toNat) (nI 0) ru) nB0 g tr 2).bind _ = _ ∧ _
    rw [he, Option.bind_some, hL]
    by_cases q : e.2 < 0
    · rw [if_pos q]
      have hneg : -iI e.2 = nI (fC e.2) := by
        have : e.2 = -1 ∨ e.2 = -2 := by have := heb.2.2.1; omega
        rcases this with e | e <;> rw [e] <;> rfl
      refine ⟨cL nd (8 * pl + e.1) en t lc 0 w (nI 0 - 1) (nI false.toNat) (nI 0) ru, gA, ?_, fun h => absurd h ?_⟩
      · rw [if_neg (show ¬ (0 : Int) ≤ e.2 by omega)]
        refine (if_neg (show ¬ (0 : Int32) ≤ iI e.2 from mt (iI_le (a := 0) (by omega) (by omega)).mp (by omega))).trans ?_
        rw [← hneg]
      · unfold fC
        by_cases q2 : e.2 = -1
        · rw [if_pos q2]; decide
        · rw [if_neg q2, if_pos (by omega)]; decide
    · rw [if_neg q]
      refine ⟨cL nd (8 * pl + e.1) en t lc 0 w (nI 0 - 1) (nI false.toNat) (nI 0) ru, gA, ?_, fun h => absurd h (by decide)⟩
      rw [if_pos (show (0 : Int) ≤ e.2 by omega)]
      exact if_pos (show (0 : Int32) ≤ iI 22 by decide)
  · have hw2 : ¬ iI (cmR m).2 = 22 := by
      unfold cmR
      have hb2 := hmb.2.2
      have hb10 : m.2 < 10 := hmb.2.2.2
      by_cases q : 0 ≤ m.2
      · show ¬ iI (if 0 ≤ m.2 then cmN m.2 else m.2) = 22
        rw [if_pos q]
        have hcb := cmN_b (k := m.2) q (by omega)
        refine mt (iI_eq (b := 22) (by omega) (by omega)).mp ?_
        unfold cmN
        by_cases q0 : m.2 = 0
        · rw [if_pos q0]; decide
        · rw [if_neg q0]
          by_cases q1 : m.2 = 1
          · rw [if_pos q1]; decide
          · rw [if_neg q1, if_neg q9]
            have : m.2 < 10 := hb2.2
            omega
      · show ¬ iI (if 0 ≤ m.2 then cmN m.2 else m.2) = 22
        rw [if_neg q]
        exact mt (iI_eq (b := 22) (by omega) (by omega)).mp (by omega)
    obtain ⟨o2, gl2, k1, k2⟩ := lr_loop (N := N) (nd := nd) (u1 := (cL nd (8 * pl + i) en t lc 0 w (nI 0 - 1) (nI false.toNat) (nI 0) ru, gA, gL)) (t := t) (g := g) hN hw hpl hn0 hen htr rfl hgl hup (w + 2) 0 false i (fun _ => false) 0 (fun _ => 0) gA 0 ru N 0 (by omega) (by omega) (by omega) (by omega) hi (by rw [← hm]; exact q9) (fun x hx => absurd hx (by omega)) (isCh_zero _) (by omega) (Or.inl rfl)
    rw [← hm] at k1
    refine ⟨o2, gl2, ?_, k2⟩
    rw [if_neg hw2]
    unfold dk_elim
    rw [show lp_LineReader_readLine_41 N tr nB0 g (nI w) (cL nd (8 * pl + i) en t lc 0 w (nI 0 - 1) (nI false.toNat) (nI 0) ru, gA, gL) N 0 (iI (cmR m).2) gA (cL nd (8 * pl + m.1) en t lc 0 w (nI 0 - 1) (nI false.toNat) (nI 0) ru) = _ from k1]
    rfl
theorem tbW : ∀ i, i < 64 → tb_Coder_WHITE_RESTS i = nI (wrWd i) ∧ tb_Coder_BLACK_RESTS i = nI (brWd i) ∧ wrWd i < 16384 ∧ brWd i < 16384 := by decide +kernel
theorem tbB : ∀ i, i < 27 → tb_Coder_WHITE_BLOCKS i = nI (wbWd i) ∧ tb_Coder_BLACK_BLOCKS i = nI (bbWd i) ∧ wbWd i < 16384 ∧ bbWd i < 16384 := by decide +kernel
theorem tbL : ∀ i, i < 13 → tb_Coder_LONG_BLOCKS i = nI (lbWd i) ∧ lbWd i < 16384 := by decide +kernel
theorem tbM : ∀ i, i < 10 → modeT i = nI (moWd i) ∧ moWd i < 16384 := by decide +kernel
theorem rdT_of {wr br wb bb bl md : Nat → Int32} (h : mTab wr br wb bb bl md) : rdT wr br wb bb bl md := by
  obtain ⟨h1, h2, h3, h4, h5, h6⟩ := h
  exact ⟨fun i hi => ⟨(h1 i hi).trans (tbW i hi).1, (tbW i hi).2.2.1⟩, fun i hi => ⟨(h2 i hi).trans (tbW i hi).2.1, (tbW i hi).2.2.2⟩, fun i hi => ⟨(h3 i hi).trans (tbB i hi).1, (tbB i hi).2.2.1⟩, fun i hi => ⟨(h4 i hi).trans (tbB i hi).2.1, (tbB i hi).2.2.2⟩, fun i hi => ⟨(h5 i hi).trans (tbL i hi).1, (tbL i hi).2⟩, fun i hi => ⟨(h6 i hi).trans (tbM i hi).1, (tbM i hi).2⟩⟩
/-- the bits from i on spell xs -/
def spl (bit : Nat → Bool) (i : Nat) (xs : List Bool) : Prop := ∀ x, x < xs.length → bit (i + x) = gb xs x
theorem spl_l {bit : Nat → Bool} {i : Nat} {xs ys : List Bool} (h : spl bit i (xs ++ ys)) : spl bit i xs := fun x hx => (h x (by rw [List.length_append]; omega)).trans (gb_app1 hx)
theorem spl_r {bit : Nat → Bool} {i : Nat} {xs ys : List Bool} (h : spl bit i (xs ++ ys)) : spl bit (i + xs.length) ys := fun x hx => by
  have := h (xs.length + x) (by rw [List.length_append]; omega)
  rw [← Nat.add_assoc] at this
  rw [this]
  unfold gb
  rw [List.getD_eq_getElem?_getD, List.getD_eq_getElem?_getD, List.getElem?_append_right (by omega)]
  congr 2; omega
theorem shr_step (W r : Nat) : 2 * (W >>> (r + 1)) + (W.testBit r).toNat = W >>> r := by
  have h1 : W >>> (r + 1) = W >>> r / 2 := by rw [Nat.shiftRight_succ]
  have h2 : (W.testBit r).toNat = W >>> r % 2 := by
    rw [Nat.testBit_eq_decide_div_mod_eq, Nat.shiftRight_eq_div_pow]
    have : W / 2 ^ r % 2 < 2 := Nat.mod_lt _ (by omega)
    by_cases q : W / 2 ^ r % 2 = 1
    · rw [decide_eq_true q, q]; rfl
    · rw [decide_eq_false q]; show 0 = _; omega
  rw [h1, h2]; omega
/-- a spelled word is read -/
theorem rd_word {bit : Nat → Bool} {nb W : Nat} {val : Nat → Int} {beg : Nat → Bool} {mean : Int → Int} (h0 : 0 ≤ val W) : ∀ (r f i : Nat), 1 ≤ r → r ≤ f → i + r ≤ nb → spl bit i (wbk W r) → (∀ q, 1 ≤ q → q < r → ¬ 0 ≤ val (W >>> q) ∧ beg (W >>> q) = true) → wdG bit nb val beg mean f (W >>> r) i = (i + r, mean (val W)) := by
  intro r
  induction r with
  | zero => intro f i h; exact absurd h (by omega)
  | succ r ih =>
    intro f i h1 hf hi hs hp
    obtain ⟨f, rfl⟩ : ∃ z, f = z + 1 := ⟨f - 1, by omega⟩
    have hb : bit i = W.testBit r := by
      have := hs 0 (by rw [wbk_length]; omega)
      rw [Nat.add_zero] at this
      rw [this]; rfl
    rw [wdG, if_neg (by omega), hb, shr_step]
    by_cases q : r = 0
    · subst q
      rw [show W >>> 0 = W from rfl, if_pos h0]
    · have := hp r (by omega) (by omega)
      rw [if_neg this.1, if_pos this.2]
      have hs' : spl bit (i + 1) (wbk W r) := fun x hx => by
        have := hs (x + 1) (by rw [wbk_length] at hx ⊢; omega)
        rw [show i + 1 + x = i + (x + 1) by omega, this]; rfl
      rw [ih f (i + 1) (by omega) (by omega) (by omega) hs' (fun q h1 h2 => hp q h1 (by omega))]
      rw [show i + 1 + r = i + (r + 1) by omega]
def pfx (val : Nat → Int) (beg : Nat → Bool) (W : Nat) (x : Int) : Bool := (val W == x) && (decide (1 ≤ Nat.log2 W) && (decide (Nat.log2 W ≤ 14) && ((W >>> Nat.log2 W == 1) && (List.range (Nat.log2 W)).all (fun q => decide (q = 0) || (decide (¬ 0 ≤ val (W >>> q)) && beg (W >>> q))))))
theorem rd_pfx {bit : Nat → Bool} {nb W i : Nat} {val : Nat → Int} {beg : Nat → Bool} {mean : Int → Int} {x : Int} (h : pfx val beg W x = true) (hx : 0 ≤ x) (hi : i + Nat.log2 W ≤ nb) (hs : spl bit i (wbk W (Nat.log2 W))) : wdG bit nb val beg mean 14 1 i = (i + Nat.log2 W, mean x) := by
  unfold pfx at h
  rw [Bool.and_eq_true, Bool.and_eq_true, Bool.and_eq_true, Bool.and_eq_true] at h
  obtain ⟨h1, h2, h3, h4, h5⟩ := h
  have e1 : val W = x := by simpa using h1
  have e4 : W >>> Nat.log2 W = 1 := by simpa using h4
  have := rd_word (bit := bit) (nb := nb) (W := W) (val := val) (beg := beg) (mean := mean) (by rw [e1]; exact hx) (Nat.log2 W) 14 i (of_decide_eq_true h2) (of_decide_eq_true h3) hi hs (fun q q1 q2 => by
    have := List.all_eq_true.mp h5 q (List.mem_range.mpr q2)
    rw [Bool.or_eq_true, Bool.and_eq_true] at this
    rcases this with a | ⟨a, b⟩
    · exact absurd (of_decide_eq_true a) (by omega)
    · exact ⟨of_decide_eq_true a, b⟩)
  rw [e4, e1] at this; exact this
theorem pf_m9 : ∀ k, k < 9 → pfx (fun v => plc moWd v 9) (fun v => bgn moWd v 9) (moWd k) k = true := by decide +kernel
theorem pf_m10 : ∀ k, k < 9 → pfx (fun v => plc moWd v 10) (fun v => bgn moWd v 10) (moWd k) k = true := by decide +kernel
theorem pf_wr : ∀ k, k < 64 → pfx (rnV wrWd wbWd lbWd) (rnB wrWd wbWd lbWd) (wrWd k) k = true := by decide +kernel
theorem pf_wb : ∀ k, k < 27 → pfx (rnV wrWd wbWd lbWd) (rnB wrWd wbWd lbWd) (wbWd k) (64 * (k + 1)) = true := by decide +kernel
theorem pf_wl : ∀ k, k < 13 → pfx (rnV wrWd wbWd lbWd) (rnB wrWd wbWd lbWd) (lbWd k) (1792 + 64 * k) = true := by decide +kernel
theorem pf_br : ∀ k, k < 64 → pfx (rnV brWd bbWd lbWd) (rnB brWd bbWd lbWd) (brWd k) k = true := by decide +kernel
theorem pf_bb : ∀ k, k < 27 → pfx (rnV brWd bbWd lbWd) (rnB brWd bbWd lbWd) (bbWd k) (64 * (k + 1)) = true := by decide +kernel
theorem pf_bl : ∀ k, k < 13 → pfx (rnV brWd bbWd lbWd) (rnB brWd bbWd lbWd) (lbWd k) (1792 + 64 * k) = true := by decide +kernel
theorem WB_nI {x : Nat} (hx : x < 16384) : WB (nI x) = wbk x (Nat.log2 x) := by unfold WB; rw [nI_clamp (by omega)]
theorem rd_mode {bit : Nat → Bool} {nb s i k : Nat} (hk : k < 9) (hs : spl bit i (WB (modeT k))) (hi : i + (WB (modeT k)).length ≤ nb) : modA bit nb s i = (i + (WB (modeT k)).length, (k : Int)) := by
  have ht := tbM k (by omega)
  rw [ht.1, WB_nI ht.2] at hs hi ⊢
  rw [wbk_length] at hi ⊢
  unfold modA
  by_cases q : s = 0
  · rw [if_pos q]
    have := rd_pfx (mean := id) (pf_m10 k hk) (by omega) hi hs
    rw [wdG_md] at this
    have e1 := congrArg Prod.fst this
    have e2 := congrArg Prod.snd this
    refine Prod.ext e1 ?_
    have e2' : (if 0 ≤ (mdA bit nb moWd 10 14 1 i).2 then (mdA bit nb moWd 10 14 1 i).2 else (mdA bit nb moWd 10 14 1 i).2) = (k : Int) := e2
    rw [ite_self] at e2'; exact e2'
  · rw [if_neg q]
    have := rd_pfx (mean := id) (pf_m9 k hk) (by omega) hi hs
    rw [wdG_md] at this
    have e1 := congrArg Prod.fst this
    have e2 := congrArg Prod.snd this
    refine Prod.ext e1 ?_
    have e2' : (if 0 ≤ (mdA bit nb moWd 9 14 1 i).2 then (mdA bit nb moWd 9 14 1 i).2 else (mdA bit nb moWd 9 14 1 i).2) = (k : Int) := e2
    rw [ite_self] at e2'; exact e2'
def lrC (c : Bool) : Nat → Nat := if c then brWd else wrWd
def loC (c : Bool) : Nat → Nat := if c then bbWd else wbWd
theorem rd_rest {bit : Nat → Bool} {nb i k : Nat} {c : Bool} (hk : k < 64) (hs : spl bit i (WB (restT c k))) (hi : i + (WB (restT c k)).length ≤ nb) : rnA bit nb (lrC c) (loC c) lbWd 14 1 i = (i + (WB (restT c k)).length, (k : Int)) := by
  have ht := tbW k hk
  cases c with
  | false =>
    rw [show restT false k = nI (wrWd k) from ht.1, WB_nI ht.2.2.1] at hs hi ⊢
    rw [wbk_length] at hi ⊢
    have := rd_pfx (mean := id) (pf_wr k hk) (by omega) hi hs
    rw [wdG_rn] at this; exact this
  | true =>
    rw [show restT true k = nI (brWd k) from ht.2.1, WB_nI ht.2.2.2] at hs hi ⊢
    rw [wbk_length] at hi ⊢
    have := rd_pfx (mean := id) (pf_br k hk) (by omega) hi hs
    rw [wdG_rn] at this; exact this
theorem rd_block {bit : Nat → Bool} {nb i k : Nat} {c : Bool} (hk : k < 27) (hs : spl bit i (WB (blockT c k))) (hi : i + (WB (blockT c k)).length ≤ nb) : rnA bit nb (lrC c) (loC c) lbWd 14 1 i = (i + (WB (blockT c k)).length, 64 * ((k : Int) + 1)) := by
  have ht := tbB k hk
  cases c with
  | false =>
    rw [show blockT false k = nI (wbWd k) from ht.1, WB_nI ht.2.2.1] at hs hi ⊢
    rw [wbk_length] at hi ⊢
    have := rd_pfx (mean := id) (pf_wb k hk) (by omega) hi hs
    rw [wdG_rn] at this; exact this
  | true =>
    rw [show blockT true k = nI (bbWd k) from ht.2.1, WB_nI ht.2.2.2] at hs hi ⊢
    rw [wbk_length] at hi ⊢
    have := rd_pfx (mean := id) (pf_bb k hk) (by omega) hi hs
    rw [wdG_rn] at this; exact this
theorem rd_long {bit : Nat → Bool} {nb i k : Nat} {c : Bool} (hk : k < 13) (hs : spl bit i (WB (tb_Coder_LONG_BLOCKS k))) (hi : i + (WB (tb_Coder_LONG_BLOCKS k)).length ≤ nb) : rnA bit nb (lrC c) (loC c) lbWd 14 1 i = (i + (WB (tb_Coder_LONG_BLOCKS k)).length, 1792 + 64 * (k : Int)) := by
  have ht := tbL k hk
  rw [ht.1, WB_nI ht.2] at hs hi ⊢
  rw [wbk_length] at hi ⊢
  cases c with
  | false =>
    have := rd_pfx (mean := id) (pf_wl k hk) (by omega) hi hs
    rw [wdG_rn] at this; exact this
  | true =>
    have := rd_pfx (mean := id) (pf_bl k hk) (by omega) hi hs
    rw [wdG_rn] at this; exact this
theorem rr_more {bit : Nat → Bool} {nb w x0 F s i i' x : Nat} {lr lo lb : Nat → Nat} (h : rnA bit nb lr lo lb 14 1 i = (i', (x : Int))) (h64 : 64 ≤ x) (hw : x0 + (s + x) ≤ w) : rrA bit nb lr lo lb w x0 (F + 1) s i = rrA bit nb lr lo lb w x0 F (s + x) i' := by
  rw [rrA, h]
  rw [if_neg (show ¬ (i', (x : Int)).2 < 0 by show ¬ (x : Int) < 0; omega), if_neg (show ¬ w < x0 + (s + (i', (x : Int)).2.toNat) by show ¬ w < x0 + (s + (x : Int).toNat); omega), if_neg (show ¬ (i', (x : Int)).2 < 64 by show ¬ (x : Int) < 64; omega)]
  rfl
theorem rr_last {bit : Nat → Bool} {nb w x0 F s i i' x : Nat} {lr lo lb : Nat → Nat} (h : rnA bit nb lr lo lb 14 1 i = (i', (x : Int))) (h64 : x < 64) (hw : x0 + (s + x) ≤ w) : rrA bit nb lr lo lb w x0 (F + 1) s i = (i', s + x, 0) := by
  rw [rrA, h]
  rw [if_neg (show ¬ (i', (x : Int)).2 < 0 by show ¬ (x : Int) < 0; omega), if_neg (show ¬ w < x0 + (s + (i', (x : Int)).2.toNat) by show ¬ w < x0 + (s + (x : Int).toNat); omega), if_pos (show (i', (x : Int)).2 < 64 by show (x : Int) < 64; omega)]
  rfl
theorem rd_runT {bit : Nat → Bool} {nb w x0 F s i m : Nat} {c : Bool} (hm : m < 2560) (hF : 2 ≤ F) (hs : spl bit i (runT m c)) (hi : i + (runT m c).length ≤ nb) (hw : x0 + (s + m) ≤ w) : rrA bit nb (lrC c) (loC c) lbWd w x0 F s i = (i + (runT m c).length, s + m, 0) := by
  obtain ⟨F, rfl⟩ : ∃ z, F = z + 2 := ⟨F - 2, by omega⟩
  unfold runT at hs hi ⊢
  by_cases q1 : 1792 ≤ m
  · rw [if_pos q1] at hs hi ⊢
    rw [List.length_append] at hi ⊢
    have h1 := rd_long (nb := nb) (c := c) (k := (m - 1792) / 64) (by omega) (spl_l hs) (by omega)
    have h2 := rd_rest (nb := nb) (c := c) (k := m % 64) (by omega) (spl_r hs) (by omega)
    rw [rr_more (w := w) (x0 := x0) (s := s) (F := F + 1) (x := 1792 + 64 * ((m - 1792) / 64)) h1 (by omega) (by omega), rr_last (w := w) (x0 := x0) (s := s + (1792 + 64 * ((m - 1792) / 64))) (F := F) (x := m % 64) h2 (by omega) (by omega), Nat.add_assoc]
    congr 2; omega
  · rw [if_neg q1] at hs hi ⊢
    by_cases q2 : 64 ≤ m
    · rw [if_pos q2] at hs hi ⊢
      rw [List.length_append] at hi ⊢
      have h1 := rd_block (nb := nb) (c := c) (k := m / 64 - 1) (by omega) (spl_l hs) (by omega)
      have h2 := rd_rest (nb := nb) (c := c) (k := m % 64) (by omega) (spl_r hs) (by omega)
      rw [rr_more (w := w) (x0 := x0) (s := s) (F := F + 1) (x := 64 * (m / 64 - 1 + 1)) h1 (by omega) (by omega), rr_last (w := w) (x0 := x0) (s := s + 64 * (m / 64 - 1 + 1)) (F := F) (x := m % 64) h2 (by omega) (by omega), Nat.add_assoc]
      congr 2; omega
    · rw [if_neg q2] at hs hi ⊢
      rw [List.nil_append] at hs hi ⊢
      have h2 := rd_rest (nb := nb) (c := c) (k := m % 64) (by omega) hs hi
      rw [rr_last (w := w) (x0 := x0) (s := s) (F := F + 1) (x := m % 64) h2 (by omega) (by omega)]
      congr 2; omega
theorem rd_longs {bit : Nat → Bool} {nb w x0 m : Nat} {c : Bool} (hm : m < 2560) : ∀ (k F s i : Nat), 2 + k ≤ F → spl bit i (longs k ++ runT m c) → i + (longs k ++ runT m c).length ≤ nb → x0 + (s + 2560 * k + m) ≤ w → rrA bit nb (lrC c) (loC c) lbWd w x0 F s i = (i + (longs k ++ runT m c).length, s + 2560 * k + m, 0) := by
  intro k
  induction k with
  | zero =>
    intro F s i hF hs hi hw
    have := rd_runT (bit := bit) (nb := nb) (w := w) (x0 := x0) (F := F) (s := s) (i := i) (c := c) hm (by omega) hs hi (by omega)
    exact this
  | succ k ih =>
    intro F s i hF hs hi hw
    obtain ⟨F, rfl⟩ : ∃ z, F = z + 1 := ⟨F - 1, by omega⟩
    rw [longs, List.append_assoc] at hs hi ⊢
    rw [List.length_append] at hi ⊢
    have h1 := rd_long (nb := nb) (c := c) (k := 12) (by omega) (spl_l hs) (by show i + (WB 4127).length ≤ nb; omega)
    have h1' : rnA bit nb (lrC c) (loC c) lbWd 14 1 i = (i + (WB 4127).length, ((2560 : Nat) : Int)) := h1
    rw [rr_more (w := w) (x0 := x0) (s := s) (F := F) (x := 2560) h1' (by omega) (by omega), ih F (s + 2560) _ (by omega) (spl_r hs) (by show i + (WB 4127).length + _ ≤ nb; omega) (by omega)]
    show (i + (WB 4127).length + _, _, 0) = _
    rw [Nat.add_assoc]
    congr 2; omega
/-- a spelled run is read -/
theorem rd_run {bit : Nat → Bool} {nb w x0 i n : Nat} {c : Bool} (hw : w ≤ 10000) (hs : spl bit i (runB n c)) (hi : i + (runB n c).length ≤ nb) (hx : x0 + n ≤ w) : runA bit nb w c x0 i = (i + (runB n c).length, n, 0) := by
  have := rd_longs (bit := bit) (nb := nb) (w := w) (x0 := x0) (m := n % 2560) (c := c) (Nat.mod_lt _ (by omega)) (n / 2560) 200 0 i (by omega) hs hi (by omega)
  have e : runA bit nb w c x0 i = rrA bit nb (lrC c) (loC c) lbWd w x0 200 0 i := rfl
  rw [e, this]
  unfold runB
  congr 2; omega
theorem fnd_cg {P Q : Nat → Bool} : ∀ (m k : Nat), (∀ x, k ≤ x → x < k + m → P x = Q x) → fnd P m k = fnd Q m k := by
  intro m
  induction m with
  | zero => intro k _; rfl
  | succ m ih =>
    intro k h
    rw [fnd, fnd, h k (Nat.le_refl _) (by omega), ih (k + 1) (fun x h1 h2 => h x (by omega) (by omega))]
theorem b1A_congr {w s : Nat} {up up' : Nat → Bool} {c : Bool} (h : ∀ x, x < w → up x = up' x) (hs : s ≤ w) : b1A w up s c = b1A w up' s c := by
  unfold b1A
  refine fnd_cg _ _ (fun x h1 h2 => ?_)
  unfold chP
  rw [h x (by omega)]
  by_cases q : 0 < x
  · rw [h (x - 1) (by omega)]
  · rw [decide_eq_false q]; rfl
theorem b2A_congr {w s : Nat} {up up' : Nat → Bool} {c : Bool} (h : ∀ x, x < w → up x = up' x) (hs : s ≤ w) : b2A w up s c = b2A w up' s c := by
  unfold b2A
  rw [b1A_congr h hs]
  by_cases q : b1A w up' s c = w
  · rw [if_pos q, if_pos q]
  · rw [if_neg q, if_neg q]
    have hb := b1A_b (w := w) (s := s) (up := up') (c := c) hs
    refine fnd_cg _ _ (fun x h1 h2 => ?_)
    show (up x == c) = (up' x == c)
    rw [h x (by omega)]
theorem fnd_no {P : Nat → Bool} : ∀ (m k x : Nat), k ≤ x → x < fnd P m k → P x = false := by
  intro m
  induction m with
  | zero => intro k x h1 h2; exact absurd h2 (by show ¬ x < k; omega)
  | succ m ih =>
    intro k x h1 h2
    rw [fnd] at h2
    by_cases q : P k = true
    · rw [if_pos q] at h2; exact absurd h2 (by omega)
    · rw [if_neg q] at h2
      by_cases q2 : x = k
      · rw [q2]; cases h : P k with | true => exact absurd h q | false => rfl
      · exact ih (k + 1) x (by omega) h2
theorem fnd_yes {P : Nat → Bool} : ∀ (m k : Nat), fnd P m k < k + m → P (fnd P m k) = true := by
  intro m
  induction m with
  | zero => intro k h; exact absurd h (by show ¬ k < k + 0; omega)
  | succ m ih =>
    intro k h
    rw [fnd] at h ⊢
    by_cases q : P k = true
    · rw [if_pos q]; exact q
    · rw [if_neg q] at h ⊢
      exact ih (k + 1) (by omega)
/-- **what was coded is read** -/
theorem rd_line {bit : Nat → Bool} {nb w : Nat} {up up' ln : Nat → Bool} (hw1 : 1 ≤ w) (hw : w ≤ 10000) (hup : ∀ x, x < w → up x = up' x) : ∀ (k s : Nat) (c : Bool) (i : Nat) (p : Nat → Bool), w + 1 ≤ s + k → s ≤ w + 1 → (1 ≤ s → s ≤ w → ln (s - 1) = c) → spl bit i (codeL w up' ln k s c) → i + (codeL w up' ln k s c).length ≤ nb → (lnA bit nb w up (k + 1) s c i p).1 = i + (codeL w up' ln k s c).length ∧ (lnA bit nb w up (k + 1) s c i p).2.1 = 0 ∧ (∀ x, s - 1 ≤ x → x < w → (lnA bit nb w up (k + 1) s c i p).2.2 x = ln x) ∧ (∀ x, x < s - 1 → (lnA bit nb w up (k + 1) s c i p).2.2 x = p x) := by
  intro k
  induction k with
  | zero =>
    intro s c i p hk hs hc hsp hi
    rw [lnA, if_pos (by omega)]
    exact ⟨rfl, rfl, fun x h1 h2 => absurd h2 (by omega), fun x _ => rfl⟩
  | succ k ih =>
    intro s c i p hk hs hc hsp hi
    by_cases hws : w < s
    · rw [codeL, if_pos hws] at hi ⊢
      rw [lnA, if_pos hws]
      exact ⟨rfl, rfl, fun x h1 h2 => absurd h2 (by omega), fun x _ => rfl⟩
    · have hsw : s ≤ w := by omega
      have e1 := b1A_congr (c := c) hup hsw
      have e2 := b2A_congr (c := c) hup hsw
      have hb1 := b1A_b (w := w) (s := s) (up := up') (c := c) hsw
      have hb2 := b2A_b (w := w) (s := s) (up := up') (c := c) hsw
      obtain ⟨b1, hb1e⟩ : ∃ b, b = b1A w up' s c := ⟨_, rfl⟩
      obtain ⟨b2, hb2e⟩ : ∃ b, b = b2A w up' s c := ⟨_, rfl⟩
      obtain ⟨a1, ha1e⟩ : ∃ a, a = fnd (fun x => ln x == !c) (w - s) s := ⟨_, rfl⟩
      have ha1 := fnd_b (fun x => ln x == !c) hsw
      have ha1n : ∀ x, s ≤ x → x < a1 → ln x = c := by
        intro x h1 h2
        have := fnd_no (P := fun x => ln x == !c) (w - s) s x h1 (by rw [← ha1e]; exact h2)
        cases hl : ln x <;> cases c <;> simp_all
      have hac : ∀ x, s - 1 ≤ x → x < a1 → x < w → ln x = c := by
        intro x h1 h2 h3
        by_cases q : s ≤ x
        · exact ha1n x q h2
        · have : x = s - 1 := by omega
          rw [this]; exact hc (by omega) hsw
      have ha1y : a1 < w → ln a1 = !c := by
        intro h
        have := fnd_yes (P := fun x => ln x == !c) (w - s) s (by rw [← ha1e]; omega)
        rw [← ha1e] at this
        simpa using this
      rw [← ha1e] at ha1
      -- the text of codeL by its names
      have hcode : codeL w up' ln (k + 1) s c = if b2 < a1 then WB 17 ++ codeL w up' ln k (b2 + 1) c else if a1 ≤ b1 + 3 ∧ b1 ≤ a1 + 3 then WB (modeT (5 + a1 - b1)) ++ codeL w up' ln k (a1 + 1) !c else WB 9 ++ (runB (a1 - (s - 1)) c ++ (runB ((if a1 = w then w else fnd (fun x => ln x == c) (w - (a1 + 1)) (a1 + 1)) - a1) (!c) ++ codeL w up' ln k ((if a1 = w then w else fnd (fun x => ln x == c) (w - (a1 + 1)) (a1 + 1)) + 1) c)) := by
        rw [codeL, if_neg hws, hb2e, ha1e, hb1e]; rfl
      rw [hcode] at hsp hi ⊢
      rw [← hb1e] at hb1 hb2
      rw [← hb2e] at hb2
      rw [← hb1e] at e1
      rw [← hb2e] at e2
      rw [lnA, if_neg hws]
      by_cases q1 : b2 < a1
      · rw [if_pos q1] at hsp hi ⊢
        rw [List.length_append] at hi ⊢
        have hm := rd_mode (bit := bit) (nb := nb) (s := s) (i := i) (k := 0) (by omega) (spl_l hsp) (by show i + (WB 17).length ≤ nb; omega)
        have hR : pcA bit nb w up s c i = (i + (WB 17).length, 0, b2 + 1, c, b2) := by
          have hm' : modA bit nb s i = (i + (WB 17).length, (0 : Int)) := hm
          unfold pcA
          rw [hm', if_neg (show ¬ (0 : Int) = 9 by decide)]
          unfold pcB
          rw [if_neg (show ¬ (0 : Int) < 0 by decide), if_neg (show ¬ (0 : Int) = 1 by decide), if_pos (show (0 : Int) = 0 from rfl), e2, if_neg (by omega)]
        rw [hR, if_pos rfl]
        obtain ⟨i1, i2, i3, i4⟩ := ih (b2 + 1) c (i + (WB 17).length) (spA s c b2 (b2 + 1) p) (by omega) (by omega) (fun _ h => hac b2 (by omega) q1 (by omega)) (spl_r hsp) (by omega)
        refine ⟨i1.trans (by omega), i2, fun x h1 h2 => ?_, fun x hx => ?_⟩
        · by_cases q : b2 + 1 - 1 ≤ x
          · exact i3 x q h2
          · rw [i4 x (by omega)]
            unfold spA
            rw [if_pos (by omega)]; exact (hac x h1 (by omega) h2).symm
        · rw [i4 x (by omega)]; exact (sp_low (by omega) hx).symm
      · rw [if_neg q1] at hsp hi ⊢
        by_cases q2 : a1 ≤ b1 + 3 ∧ b1 ≤ a1 + 3
        · rw [if_pos q2] at hsp hi ⊢
          rw [List.length_append] at hi ⊢
          obtain ⟨kk, hkk⟩ : ∃ kk, kk = 5 + a1 - b1 := ⟨_, rfl⟩
          rw [← hkk] at hsp hi ⊢
          have hk9 : 2 ≤ kk ∧ kk < 9 := by omega
          have hm := rd_mode (bit := bit) (nb := nb) (s := s) (i := i) (k := kk) hk9.2 (spl_l hsp) (by omega)
          have hto : (b1 : Int) + (kk : Int) - 5 = a1 := by omega
          have hR : pcA bit nb w up s c i = (i + (WB (modeT kk)).length, 0, a1 + 1, !c, a1) := by
            unfold pcA
            rw [hm, if_neg (show ¬ (kk : Int) = 9 by omega)]
            unfold pcB
            rw [if_neg (show ¬ (kk : Int) < 0 by omega), if_neg (show ¬ (kk : Int) = 1 by omega), if_neg (show ¬ (kk : Int) = 0 by omega), e1]
            show (if (b1 : Int) + (kk : Int) - 5 < s ∨ (w : Int) < (b1 : Int) + (kk : Int) - 5 then _ else (_, 0, ((b1 : Int) + (kk : Int) - 5).toNat + 1, !c, ((b1 : Int) + (kk : Int) - 5).toNat)) = _
            rw [hto, if_neg (by omega), show (a1 : Int).toNat = a1 by omega]
          rw [hR, if_pos rfl]
          obtain ⟨i1, i2, i3, i4⟩ := ih (a1 + 1) (!c) (i + (WB (modeT kk)).length) (spA s c a1 (a1 + 1) p) (by omega) (by omega) (fun _ h => ha1y (by omega)) (spl_r hsp) (by omega)
          refine ⟨i1.trans (by omega), i2, fun x h1 h2 => ?_, fun x hx => ?_⟩
          · by_cases q : a1 + 1 - 1 ≤ x
            · exact i3 x q h2
            · rw [i4 x (by omega)]
              unfold spA
              rw [if_pos (by omega)]; exact (hac x h1 (by omega) h2).symm
          · rw [i4 x (by omega)]; exact (sp_low (by omega) hx).symm
        · rw [if_neg q2] at hsp hi ⊢
          obtain ⟨a2, ha2e⟩ : ∃ a, a = (if a1 = w then w else fnd (fun x => ln x == c) (w - (a1 + 1)) (a1 + 1)) := ⟨_, rfl⟩
          rw [← ha2e] at hsp hi ⊢
          have ha2 : a1 ≤ a2 ∧ a2 ≤ w ∧ (a1 < w → a1 < a2) ∧ (∀ x, a1 ≤ x → x < a2 → x < w → ln x = !c) ∧ (a2 < w → ln a2 = c) := by
            rw [ha2e]
            by_cases q : a1 = w
            · rw [if_pos q]; exact ⟨by omega, by omega, fun h => absurd h (by omega), fun x h1 h2 h3 => absurd h3 (by omega), fun h => absurd h (by omega)⟩
            · rw [if_neg q]
              have hf := fnd_b (fun x => ln x == c) (w := w) (s := a1 + 1) (by omega)
              refine ⟨by omega, by omega, fun _ => by omega, fun x h1 h2 h3 => ?_, fun h => ?_⟩
              · by_cases q3 : x = a1
                · rw [q3]; exact ha1y (by omega)
                · have := fnd_no (P := fun x => ln x == c) (w - (a1 + 1)) (a1 + 1) x (by omega) h2
                  cases hl : ln x <;> cases c <;> simp_all
              · have := fnd_yes (P := fun x => ln x == c) (w - (a1 + 1)) (a1 + 1) (by omega)
                simpa using this
          obtain ⟨c1, c2, c3, c4, c5⟩ := ha2
          rw [List.length_append, List.length_append, List.length_append] at hi ⊢
          have hm := rd_mode (bit := bit) (nb := nb) (s := s) (i := i) (k := 1) (by omega) (spl_l hsp) (by show i + (WB 9).length ≤ nb; omega)
          have s1 := spl_r hsp
          have r1 := rd_run (nb := nb) (w := w) (x0 := s - 1) (n := a1 - (s - 1)) (c := c) hw (spl_l s1) (by omega) (by omega)
          have s2 := spl_r s1
          have r2 := rd_run (nb := nb) (w := w) (x0 := s - 1 + (a1 - (s - 1))) (n := a2 - a1) (c := !c) hw (spl_l s2) (by omega) (by omega)
          have s3 := spl_r s2
          have hsum : ¬ (a1 - (s - 1)) + (a2 - a1) = 0 := by
            by_cases q : s = 0
            · by_cases qa : a1 = w
              · omega
              · have := c3 (by omega); omega
            · omega
          have hR : pcA bit nb w up s c i = (i + (WB 9).length + (runB (a1 - (s - 1)) c).length + (runB (a2 - a1) (!c)).length, 0, s - 1 + (a1 - (s - 1)) + (a2 - a1) + 1, c, s - 1 + (a1 - (s - 1))) := by
            unfold pcA
            have hm' : modA bit nb s i = (i + (WB 9).length, (1 : Int)) := hm
            rw [hm', if_neg (show ¬ (1 : Int) = 9 by decide)]
            unfold pcB
            rw [if_neg (show ¬ (1 : Int) < 0 by decide), if_pos (show (1 : Int) = 1 from rfl)]
            show (if (runA bit nb w c (s - 1) (i + (WB 9).length)).2.2 = 0 then _ else _) = _
            rw [r1]
            show (if (0 : Nat) = 0 then (if (runA bit nb w (!c) (s - 1 + (a1 - (s - 1))) (i + (WB 9).length + (runB (a1 - (s - 1)) c).length)).2.2 = 0 then _ else _) else _) = _
            rw [if_pos rfl, r2]
            show (if (0 : Nat) = 0 then (if (a1 - (s - 1)) + (a2 - a1) = 0 then _ else _) else _) = _
            rw [if_pos rfl, if_neg hsum]
          rw [hR, if_pos rfl]
          have em : s - 1 + (a1 - (s - 1)) = a1 := by omega
          have et : s - 1 + (a1 - (s - 1)) + (a2 - a1) = a2 := by omega
          rw [em] at *
          have et' : a1 + (a2 - a1) = a2 := by omega
          rw [et']
          obtain ⟨i1, i2, i3, i4⟩ := ih (a2 + 1) c (i + (WB 9).length + (runB (a1 - (s - 1)) c).length + (runB (a2 - a1) (!c)).length) (spA s c a1 (a2 + 1) p) (by omega) (by omega) (fun _ h => c5 (by omega)) s3 (by omega)
          refine ⟨i1.trans (by omega), i2, fun x h1 h2 => ?_, fun x hx => ?_⟩
          · by_cases q : a2 + 1 - 1 ≤ x
            · exact i3 x q h2
            · rw [i4 x (by omega)]
              unfold spA
              by_cases qa : s - 1 ≤ x ∧ x < a1
              · rw [if_pos qa]; exact (hac x h1 qa.2 h2).symm
              · rw [if_neg qa, if_pos (by omega)]; exact (c4 x (by omega) (by omega) h2).symm
          · rw [i4 x (by omega)]; exact (sp_low (by omega) hx).symm
theorem bvf_bit (B : Nat → Bool) (p : Nat) : ∀ r j, j < r → (bvf B p r).testBit (r - 1 - j) = B (p + j) := by
  intro r
  induction r with
  | zero => intro j h; exact absurd h (by omega)
  | succ r ih =>
    intro j hj
    rw [bvf]
    have hb : (B (p + r)).toNat ≤ 1 := by cases B (p + r) <;> decide
    by_cases q : j = r
    · subst q
      rw [show j + 1 - 1 - j = 0 by omega, Nat.testBit_zero]
      cases h : B (p + j)
      · rw [decide_eq_false]; show ¬ (2 * bvf B p j + 0) % 2 = 1; omega
      · rw [decide_eq_true]; show (2 * bvf B p j + 1) % 2 = 1; omega
    · rw [show r + 1 - 1 - j = (r - 1 - j) + 1 by omega, Nat.testBit_succ, show (2 * bvf B p r + (B (p + r)).toNat) / 2 = bvf B p r by omega]
      exact ih j (by omega)
theorem u8_byI : ∀ x, x < 256 → u8 (byI x) = x := by decide +kernel
/-- the bits of a page -/
theorem pg_bits {w n pl : Nat} {ls : List (Nat → Bool)} {g : Nat → Int32} (h : cdd w n ls (fun i => g (pl + i))) : ∀ i, i < 8 * n → sbit false g pl i = gb (endB (linesB w ls (fun _ => false) [])) i := by
  intro i hi
  have h8 := h.2 (i / 8) (by omega)
  have hlt := bvf_lt (gb (endB (linesB w ls (fun _ => false) []))) (8 * (i / 8)) 8
  unfold sbit
  have h8' : g (pl + i / 8) = byI (bvf (gb (endB (linesB w ls (fun _ => false) []))) (8 * (i / 8)) 8) := h8
  rw [h8', u8_byI _ (by omega), if_neg (by decide)]
  have := bvf_bit (gb (endB (linesB w ls (fun _ => false) []))) (8 * (i / 8)) 8 (i % 8) (by omega)
  rw [show 8 - 1 - i % 8 = 7 - i % 8 by omega, show 8 * (i / 8) + i % 8 = i by omega] at this
  exact this
theorem linesB_ap2 (w : Nat) : ∀ (ls : List (Nat → Bool)) (up : Nat → Bool) (B : List Bool), linesB w ls up B = B ++ linesB w ls up [] := by
  intro ls
  induction ls with
  | nil => intro up B; show B = B ++ []; rw [List.append_nil]
  | cons l ls ih =>
    intro up B
    show linesB w ls l (B ++ codeL w up l (w + 1) 0 false) = B ++ linesB w ls l ([] ++ codeL w up l (w + 1) 0 false)
    rw [ih l (B ++ codeL w up l (w + 1) 0 false), List.nil_append, ih l (codeL w up l (w + 1) 0 false), List.append_assoc]
/-- so many lines of a page are read -/
def seqA (bit : Nat → Bool) (nb w : Nat) (up : Nat → Bool) (i : Nat) : Nat → Nat × (Nat → Bool)
  | 0 => (i, up)
  | y + 1 => ((lineA bit nb w (seqA bit nb w up i y).2 (seqA bit nb w up i y).1).1, (lineA bit nb w (seqA bit nb w up i y).2 (seqA bit nb w up i y).1).2.2)
theorem seqA_front (bit : Nat → Bool) (nb w : Nat) (up : Nat → Bool) (i : Nat) : ∀ y, seqA bit nb w up i (y + 1) = seqA bit nb w (lineA bit nb w up i).2.2 (lineA bit nb w up i).1 y := by
  intro y
  induction y with
  | zero => rfl
  | succ y ih => rw [seqA, ih]; rfl
/-- every line of a page can be read -/
theorem seq_ok {bit : Nat → Bool} {nb w : Nat} (hw1 : 1 ≤ w) (hw : w ≤ 10000) : ∀ (ls : List (Nat → Bool)) (up up' : Nat → Bool) (i y : Nat), (∀ x, x < w → up x = up' x) → spl bit i (linesB w ls up' []) → i + (linesB w ls up' []).length ≤ nb → y < ls.length → (lineA bit nb w (seqA bit nb w up i y).2 (seqA bit nb w up i y).1).2.1 = 0 ∧ (seqA bit nb w up i y).1 ≤ nb ∧ ∀ x, x < w → (seqA bit nb w up i (y + 1)).2 x = ls.getD y (fun _ => false) x := by
  intro ls
  induction ls with
  | nil => intro up up' i y _ _ _ hy; exact absurd hy (by show ¬ y < 0; omega)
  | cons l ls ih =>
    intro up up' i y hup hs hi hy
    have e : linesB w (l :: ls) up' [] = codeL w up' l (w + 1) 0 false ++ linesB w ls l [] := by
      show linesB w ls l ([] ++ codeL w up' l (w + 1) 0 false) = _
      rw [List.nil_append, linesB_ap2]
    rw [e] at hs hi
    rw [List.length_append] at hi
    have hr := rd_line (bit := bit) (nb := nb) (ln := l) hw1 hw hup (w + 1) 0 false i (fun _ => false) (by omega) (by omega) (fun h => absurd h (by omega)) (spl_l hs) (by omega)
    have eL : lnA bit nb w up (w + 1 + 1) 0 false i (fun _ => false) = lineA bit nb w up i := rfl
    rw [eL] at hr
    obtain ⟨r1, r2, r3, r4⟩ := hr
    cases y with
    | zero => exact ⟨r2, by show i ≤ nb; omega, fun x hx => r3 x (by omega) hx⟩
    | succ y =>
      rw [seqA_front, seqA_front]
      refine ih _ l _ y (fun x hx => r3 x (by omega) hx) ?_ ?_ ?_
      · rw [r1]; exact spl_r hs
      · rw [r1]; omega
      · have : y + 1 < ls.length + 1 := hy
        omega
theorem pg_seq {w n pl h y : Nat} {ls : List (Nat → Bool)} {g : Nat → Int32} (hw1 : 1 ≤ w) (hw : w ≤ 10000) (hc : cdd w n ls (fun i => g (pl + i))) (hl : ls.length = h) (hy : y < h) : (lineA (sbit false g pl) (8 * n) w (seqA (sbit false g pl) (8 * n) w (fun _ => false) 0 y).2 (seqA (sbit false g pl) (8 * n) w (fun _ => false) 0 y).1).2.1 = 0 ∧ (seqA (sbit false g pl) (8 * n) w (fun _ => false) 0 y).1 ≤ 8 * n ∧ ∀ x, x < w → (seqA (sbit false g pl) (8 * n) w (fun _ => false) 0 (y + 1)).2 x = ls.getD y (fun _ => false) x := by
  have hb := pg_bits hc
  have hel : (endB (linesB w ls (fun _ => false) [])).length % 8 = 0 := by
    unfold endB; rw [padB_length]; omega
  have hn := hc.1
  have hlen : (linesB w ls (fun _ => false) []).length ≤ 8 * n := by
    have : (linesB w ls (fun _ => false) []).length ≤ (endB (linesB w ls (fun _ => false) [])).length := by
      unfold endB; rw [padB_length, List.length_append, List.length_append]; omega
    omega
  refine seq_ok hw1 hw ls _ (fun _ => false) 0 y (fun _ _ => rfl) (fun x hx => ?_) (by omega) (by omega)
  rw [Nat.zero_add, hb x (by omega)]
  unfold endB padB
  rw [gb_app1 (by rw [List.length_append, List.length_append]; omega), gb_app1 (by rw [List.length_append]; omega), gb_app1 hx]
theorem lb_ext {a b : Int64} (h : ∀ j, j < 64 → lb a j = lb b j) : a = b := by
  apply Int64.toBitVec_inj.mp
  apply BitVec.eq_of_getLsbD_eq
  intro i hi
  exact h i hi
/-- the bits that a run of dots sets -/
theorem df_in {to : Nat} {v0 u : Int32} (hto : to ≤ 64) (he : (if (u - v0) < (64 : Int32) then (u - v0) else (64 : Int32)) = nI to) : ∀ (m n k : Nat) (acc : Int64), to - k = m → m < n → k ≤ 64 → ∃ x, lp_LineReader_dotsFrom_71e4 v0 u n (nI k) acc = some x ∧ ∀ j, j < 64 → lb x j = (lb acc j || decide (k ≤ 63 - j ∧ 63 - j < to)) := by
  intro m
  induction m with
  | zero =>
    intro n k acc hm hn hk
    obtain ⟨n, rfl⟩ : ∃ q, n = q + 1 := ⟨n - 1, by omega⟩
    refine ⟨acc, by rw [lp_LineReader_dotsFrom_71e4, he, if_pos (nI_le (by omega) (by omega))], fun j hj => ?_⟩
    rw [decide_eq_false (by omega), Bool.or_false]
  | succ m ih =>
    intro n k acc hm hn hk
    obtain ⟨n, rfl⟩ : ∃ q, n = q + 1 := ⟨n - 1, by omega⟩
    obtain ⟨x, h1, h2⟩ := ih n (k + 1) (acc ||| ((((-9223372036854775808) : Int64).toUInt64 >>> ((nI k).toInt64.toUInt64 &&& Int64.toUInt64 63)).toInt64)) (by omega) (by omega) (by omega)
    refine ⟨x, ?_, fun j hj => ?_⟩
    · rw [lp_LineReader_dotsFrom_71e4, he, if_neg (nI_ge (by omega) (by omega)), nI_1]
      exact h1
    · rw [h2 j hj, lb_or, lb_first (by omega)]
      cases hl : lb acc j with
      | true => rfl
      | false =>
        rw [Bool.false_or, Bool.false_or]
        by_cases q : j = 63 - k
        · rw [decide_eq_true q, decide_eq_true (show k ≤ 63 - j ∧ 63 - j < to by omega)]; rfl
        · rw [decide_eq_false q, Bool.false_or]
          by_cases q2 : k ≤ 63 - j ∧ 63 - j < to
          · rw [decide_eq_true q2, decide_eq_true (by omega)]
          · rw [decide_eq_false q2, decide_eq_false (by omega)]
theorem df_in0 {v0 u : Int32} (he : (if (u - v0) < (64 : Int32) then (u - v0) else (64 : Int32)) ≤ 0) {n k : Nat} (acc : Int64) (hk : k ≤ 64) : lp_LineReader_dotsFrom_71e4 v0 u (n + 1) (nI k) acc = some acc := by
  rw [lp_LineReader_dotsFrom_71e4]
  refine if_pos ?_
  have : (0 : Int32) ≤ nI k := nI_le (a := 0) (by omega) (by omega)
  exact Int32.le_trans he this
def onD (w n : Nat) (ch : Nat → Nat) (i X : Nat) : Prop := ∃ e, e < i ∧ e % 2 = 0 ∧ e < n ∧ ch e ≤ X ∧ X < chx w n ch (e + 1)
theorem df_out {N w n f at_ en ac : Nat} {t : Bool} {nd a co ov ru : Int32} {g : Nat → Int32} {ch : Nat → Nat} {p : Nat → Bool} (hN : 100 < N) (hw : w ≤ 10000) (hf : f ≤ 10048) (hg : chA n g ch) (h : isCh w n ch p) : ∀ (m k i : Nat) (acc : Int64), n + 1 - i = m → m < k → i ≤ n + 1 → i % 2 = 0 → (∀ j, j < 64 → (lb acc j = true ↔ onD w n ch i (f + (63 - j)))) → ∃ x, lp_LineReader_dotsFrom_5d3 N (cL nd at_ en t ac n w a co ov ru) g (nI f) k (nI i) acc = some x ∧ ∀ j, j < 64 → (lb x j = true ↔ onD w n ch (n + 1) (f + (63 - j))) := by
  have hn := isCh_le h
  intro m
  induction m using Nat.strongRecOn with
  | _ m ih =>
    intro k i acc hm hk hi hp hacc
    obtain ⟨k, rfl⟩ : ∃ q, k = q + 1 := ⟨k - 1, by omega⟩
    rw [lp_LineReader_dotsFrom_5d3]
    by_cases q : n ≤ i
    · refine ⟨acc, if_pos (show nI n ≤ nI i from nI_le q (by omega)), fun j hj => (hacc j hj).trans ?_⟩
      constructor
      · rintro ⟨e, e1, e2⟩; exact ⟨e, by omega, e2⟩
      · rintro ⟨e, e1, e2, e3, e4⟩; exact ⟨e, by omega, e2, e3, e4⟩
    · have hci := h.1 i (by omega)
      have hc1 := sm_changeAt (N := N) (w := w) (i := i) hg (by omega) (by omega)
      have hc2 := sm_changeAt (N := N) (w := w) (i := i + 1) hg (by omega) (by omega)
      have hx1 : chx w n ch i = ch i := by unfold chx; rw [if_pos (by omega)]
      have hle2 := chx_le h (i + 1)
      have hlt := chx_lt h (i := i) (by omega)
      rw [hx1] at hc1 hlt
      obtain ⟨b2, hb2⟩ : ∃ b, b = chx w n ch (i + 1) := ⟨_, rfl⟩
      rw [← hb2] at hc2 hle2 hlt
      have hfrom : (if (0 : Int32) < (nI (ch i) - nI f) then (nI (ch i) - nI f) else (0 : Int32)) = nI (ch i - f) := by
        by_cases qf : f < ch i
        · rw [nI_sub (by omega), if_pos (show (0 : Int32) < nI (ch i - f) from nI_lt (a := 0) (by omega) (by omega))]
        · rw [if_neg, show ch i - f = 0 by omega]
          · rfl
          · rw [Int32.lt_iff_toInt_lt, nI_sub_toInt (by omega) (by omega)]
            have : (0 : Int32).toInt = 0 := rfl
            omega
      have hinner : ∃ x, lp_LineReader_dotsFrom_71e4 (nI f) (nI b2) N (nI (ch i - f)) acc = some x ∧ ∀ j, j < 64 → (lb x j = true ↔ (lb acc j = true ∨ (ch i ≤ f + (63 - j) ∧ f + (63 - j) < b2))) := by
        by_cases qf : f < b2
        · have hto : (if (nI b2 - nI f) < (64 : Int32) then (nI b2 - nI f) else (64 : Int32)) = nI (min 64 (b2 - f)) := by
            rw [nI_sub (by omega)]
            by_cases q64 : b2 - f < 64
            · rw [if_pos (show nI (b2 - f) < 64 from nI_lt (b := 64) q64 (by omega)), show min 64 (b2 - f) = b2 - f by omega]
            · rw [if_neg (show ¬ nI (b2 - f) < 64 from nI_nlt (b := 64) (by omega) (by omega)), show min 64 (b2 - f) = 64 by omega]; rfl
          by_cases qk : ch i - f ≤ 64
          · obtain ⟨x, x1, x2⟩ := df_in (by omega) hto (min 64 (b2 - f) - (ch i - f)) N (ch i - f) acc rfl (by omega) qk
            refine ⟨x, x1, fun j hj => ?_⟩
            rw [x2 j hj, Bool.or_eq_true, decide_eq_true_iff]
            constructor
            · rintro (a | a)
              · exact Or.inl a
              · right; omega
            · rintro (a | a)
              · exact Or.inl a
              · right; omega
          · obtain ⟨N, rfl⟩ : ∃ q, N = q + 1 := ⟨N - 1, by omega⟩
            refine ⟨acc, ?_, fun j hj => ⟨fun a => Or.inl a, fun a => a.resolve_right (by omega)⟩⟩
            rw [lp_LineReader_dotsFrom_71e4, hto, if_pos (nI_le (by omega) (by omega))]
        · obtain ⟨N, rfl⟩ : ∃ q, N = q + 1 := ⟨N - 1, by omega⟩
          have hz : (if (nI b2 - nI f) < (64 : Int32) then (nI b2 - nI f) else (64 : Int32)) ≤ 0 := by
            have hd : (nI b2 - nI f).toInt = (b2 : Int) - f := nI_sub_toInt (by omega) (by omega)
            rw [if_pos (by rw [Int32.lt_iff_toInt_lt, hd]; have : (64 : Int32).toInt = 64 := rfl; omega), Int32.le_iff_toInt_le, hd]
            have : (0 : Int32).toInt = 0 := rfl
            omega
          refine ⟨acc, ?_, fun j hj => ⟨fun a => Or.inl a, fun a => a.resolve_right (by omega)⟩⟩
          exact df_in0 hz acc (by omega)
      obtain ⟨x, x1, x2⟩ := hinner
      obtain ⟨y, y1, y2⟩ := ih (n + 1 - (i + 2)) (by omega) k (i + 2) x rfl (by omega) (by omega) (by omega) (fun j hj => by
        rw [x2 j hj, hacc j hj]
        constructor
        · rintro (⟨e, e1, e2⟩ | a)
          · exact ⟨e, by omega, e2⟩
          · exact ⟨i, by omega, hp, by omega, a.1, by rw [← hb2]; exact a.2⟩
        · rintro ⟨e, e1, e2, e3, e4, e5⟩
          by_cases qe : e < i
          · exact Or.inl ⟨e, qe, e2, e3, e4, e5⟩
          · have : e = i := by omega
            subst this
            right; rw [← hb2] at e5; exact ⟨e4, e5⟩)
      refine ⟨y, ?_, y2⟩
      refine (if_neg (show ¬ nI n ≤ nI i from nI_ge (by omega) (by omega))).trans ?_
      refine (bind_eq hc1).trans ?_
      show (ex_Coder_changeAt N 10000 g (nI n) (nI i + 1) (nI w)).bind _ = _
      rw [nI_1]
      refine (bind_eq hc2).trans ?_
      show (lp_LineReader_dotsFrom_71e4 (nI f) (nI b2) N (if (0 : Int32) < (nI (ch i) - nI f) then (nI (ch i) - nI f) else (0 : Int32)) acc).bind _ = _
      rw [hfrom]
      refine (bind_eq x1).trans ?_
      rw [show nI i + 2 = nI (i + 2) from nI_addL i 2]
      exact y1
/-- **the class's 64 dots** -/
theorem lr_dots {N w n k at_ en ac : Nat} {t : Bool} {nd a co ov ru : Int32} {g : Nat → Int32} {ch : Nat → Nat} {p : Nat → Bool} (hN : 20000 < N) (hw : w ≤ 10000) (hk : k ≤ 157) (hg : chA n g ch) (h : isCh w n ch p) : ∃ x, ex_LineReader_dotsFrom N (cL nd at_ en t ac n w a co ov ru) g (nI (64 * k)) = some x ∧ ∀ j, j < 64 → lb x j = (decide (64 * k + (63 - j) < w) && p (64 * k + (63 - j))) := by
  have hn := isCh_le h
  obtain ⟨x, x1, x2⟩ := df_out (N := N) (f := 64 * k) (nd := nd) (at_ := at_) (en := en) (ac := ac) (t := t) (a := a) (co := co) (ov := ov) (ru := ru) (by omega) hw (by omega) hg h (n + 1) N 0 0 (by omega) (by omega) (by omega) rfl (fun j hj => by
    rw [lb_0]
    constructor
    · intro q; exact absurd q (by decide)
    · rintro ⟨e, e1, _⟩; exact absurd e1 (by omega))
  refine ⟨x, ?_, fun j hj => ?_⟩
  · unfold ex_LineReader_dotsFrom
    rw [show lp_LineReader_dotsFrom_5d3 N (cL nd at_ en t ac n w a co ov ru) g (nI (64 * k)) N 0 0 = some x from x1]; rfl
  · obtain ⟨X, hX⟩ : ∃ X, X = 64 * k + (63 - j) := ⟨_, rfl⟩
    have hx := x2 j hj
    rw [← hX] at hx ⊢
    by_cases qw : X < w
    · rw [decide_eq_true qw, Bool.true_and]
      -- the number of changes up to X
      have hidx : ∃ i, i ≤ n ∧ (i = 0 ∨ ch (i - 1) ≤ X) ∧ X < chx w n ch i := by
        have : ∀ (r i : Nat), n - i = r → i ≤ n → (i = 0 ∨ ch (i - 1) ≤ X) → ∃ i, i ≤ n ∧ (i = 0 ∨ ch (i - 1) ≤ X) ∧ X < chx w n ch i := by
          intro r
          induction r with
          | zero => intro i hr hi hc; exact ⟨i, hi, hc, by unfold chx; rw [if_neg (by omega)]; exact qw⟩
          | succ r ih =>
            intro i hr hi hc
            by_cases q : X < ch i
            · exact ⟨i, hi, hc, by unfold chx; rw [if_pos (by omega)]; exact q⟩
            · exact ih (i + 1) (by omega) (by omega) (Or.inr (by rw [show i + 1 - 1 = i by omega]; omega))
        exact this n 0 (by omega) (by omega) (Or.inl rfl)
      obtain ⟨i, i1, i2, i3⟩ := hidx
      have hpx := h.2.2 i X i1 i2 i3 qw
      rw [hpx]
      by_cases qo : i % 2 = 1
      · rw [decide_eq_true qo]
        refine hx.mpr ⟨i - 1, by omega, by omega, by omega, i2.resolve_left (by omega), ?_⟩
        rw [show i - 1 + 1 = i by omega]; exact i3
      · rw [decide_eq_false qo]
        cases hl : lb x j with
        | false => rfl
        | true =>
          obtain ⟨e, e1, e2, e3, e4, e5⟩ := hx.mp hl
          have hp2 := h.2.2 (e + 1) X (by omega) (Or.inr (by rw [show e + 1 - 1 = e by omega]; exact e4)) e5 qw
          rw [hpx, decide_eq_false qo, decide_eq_true (show (e + 1) % 2 = 1 by omega)] at hp2
          exact absurd hp2 (by decide)
    · rw [decide_eq_false qw, Bool.false_and]
      cases hl : lb x j with
      | false => rfl
      | true =>
        obtain ⟨e, e1, e2, e3, e4, e5⟩ := hx.mp hl
        have := chx_le h (e + 1)
        exact absurd e5 (by omega)
theorem mw_c {gp : Nat → Int32} {v0 : Int32} {out : (Nat → Int32) × ob_Ref × ob_mLines × (Nat → Int32)} {k w : Nat} {p : Nat → Bool} (hw : w ≤ 10000) (hwp : gp (4 * v0).toNatClampNeg = nI w) (hk : k ≤ 156) (hd : dots w out.2.2.2 p) : ∀ (r i n : Nat) (acc : Int64), i + r = 64 → r < n → (∀ j, j < 64 → lb acc j = (decide (j < i) && (decide (64 * k + (i - 1 - j) < w) && p (64 * k + (i - 1 - j))))) → ∃ x, lp_Ref_printed_159c2 gp v0 (nI k) out n (nI i) acc = some x ∧ ∀ j, j < 64 → lb x j = (decide (64 * k + (63 - j) < w) && p (64 * k + (63 - j))) := by
  intro r
  induction r with
  | zero =>
    intro i n acc hi hn hacc
    obtain ⟨n, rfl⟩ : ∃ q, n = q + 1 := ⟨n - 1, by omega⟩
    refine ⟨acc, by rw [lp_Ref_printed_159c2, if_pos (show (64 : Int32) ≤ nI i from nI_le (a := 64) (by omega) (by omega))], fun j hj => ?_⟩
    rw [hacc j hj, decide_eq_true (show j < i by omega), Bool.true_and, show i - 1 - j = 63 - j by omega]
  | succ r ih =>
    intro i n acc hi hn hacc
    obtain ⟨n, rfl⟩ : ∃ q, n = q + 1 := ⟨n - 1, by omega⟩
    have ex : (64 * nI k) + nI i = nI (64 * k + i) := by rw [show (64 : Int32) * nI k = nI (64 * k) from nI_mul 64 k, nI_add]
    have hstep : ∀ (b : Bool) (z : Int64), b = (decide (64 * k + i < w) && p (64 * k + i)) → (∀ j, lb z j = (decide (j = 0) && b)) → ∀ j, j < 64 → lb ((acc <<< ((1 : Int32).toInt64 &&& 63)) ||| z) j = (decide (j < i + 1) && (decide (64 * k + (i + 1 - 1 - j) < w) && p (64 * k + (i + 1 - 1 - j)))) := by
      intro b z hb hz j hj
      rw [lb_or, show (1 : Int32) = nI 1 from rfl, lb_shlc acc 1 (by omega) hj, hz j]
      by_cases q : j = 0
      · subst q
        rw [decide_eq_false (show ¬ 1 ≤ 0 by omega), Bool.false_and, Bool.false_or, decide_eq_true rfl, Bool.true_and, hb, decide_eq_true (show 0 < i + 1 by omega), Bool.true_and, show i + 1 - 1 - 0 = i by omega]
      · rw [decide_eq_true (show 1 ≤ j by omega), Bool.true_and, decide_eq_false q, Bool.false_and, Bool.or_false, hacc (j - 1) (by omega)]
        by_cases q2 : j < i + 1
        · rw [decide_eq_true (show j - 1 < i by omega), decide_eq_true q2, show i - 1 - (j - 1) = i + 1 - 1 - j by omega]
        · rw [decide_eq_false (show ¬ j - 1 < i by omega), decide_eq_false q2, Bool.false_and, Bool.false_and]
    rw [lp_Ref_printed_159c2, if_neg (show ¬ (64 : Int32) ≤ nI i from nI_ge (b := 64) (by omega) (by omega)), hwp, ex, nI_1]
    by_cases qw : w ≤ 64 * k + i
    · rw [if_pos (nI_le qw (by omega))]
      exact ih (i + 1) n _ (by omega) (by omega) (hstep false 0 (by rw [decide_eq_false (show ¬ 64 * k + i < w by omega), Bool.false_and]) (fun j => by rw [lb_0, Bool.and_false]))
    · rw [if_neg (nI_ge (by omega) (by omega)), if_neg (nI_ge (by omega) (by omega)), if_pos (dk_in_nI (by omega) (by omega)), nI_clamp (by omega), hd (64 * k + i) (by omega)]
      cases hp : p (64 * k + i) with
      | false =>
        rw [if_pos (show nI false.toNat = 0 from rfl)]
        exact ih (i + 1) n _ (by omega) (by omega) (hstep false 0 (by rw [hp, Bool.and_false]) (fun j => by rw [lb_0, Bool.and_false]))
      | true =>
        rw [if_neg (show ¬ nI true.toNat = 0 by decide)]
        exact ih (i + 1) n _ (by omega) (by omega) (hstep true 1 (by rw [hp, decide_eq_true (show 64 * k + i < w by omega)]; rfl) (fun j => by rw [lb_1, Bool.and_true]))
theorem mw_e {gp : Nat → Int32} {v0 : Int32} {out : ob_mLines × (Nat → Int32) × (Nat → Int32) × ob_Ref} {k w : Nat} {p : Nat → Bool} (hw : w ≤ 10000) (hwp : gp (4 * v0).toNatClampNeg = nI w) (hk : k ≤ 156) (hd : dots w out.2.1 p) : ∀ (r i n : Nat) (acc : Int64), i + r = 64 → r < n → (∀ j, j < 64 → lb acc j = (decide (j < i) && (decide (64 * k + (i - 1 - j) < w) && p (64 * k + (i - 1 - j))))) → ∃ x, lp_Ref_printed_159e4 gp v0 (nI k) out n (nI i) acc = some x ∧ ∀ j, j < 64 → lb x j = (decide (64 * k + (63 - j) < w) && p (64 * k + (63 - j))) := by
  intro r
  induction r with
  | zero =>
    intro i n acc hi hn hacc
    obtain ⟨n, rfl⟩ : ∃ q, n = q + 1 := ⟨n - 1, by omega⟩
    refine ⟨acc, by rw [lp_Ref_printed_159e4, if_pos (show (64 : Int32) ≤ nI i from nI_le (a := 64) (by omega) (by omega))], fun j hj => ?_⟩
    rw [hacc j hj, decide_eq_true (show j < i by omega), Bool.true_and, show i - 1 - j = 63 - j by omega]
  | succ r ih =>
    intro i n acc hi hn hacc
    obtain ⟨n, rfl⟩ : ∃ q, n = q + 1 := ⟨n - 1, by omega⟩
    have ex : (64 * nI k) + nI i = nI (64 * k + i) := by rw [show (64 : Int32) * nI k = nI (64 * k) from nI_mul 64 k, nI_add]
    have hstep : ∀ (b : Bool) (z : Int64), b = (decide (64 * k + i < w) && p (64 * k + i)) → (∀ j, lb z j = (decide (j = 0) && b)) → ∀ j, j < 64 → lb ((acc <<< ((1 : Int32).toInt64 &&& 63)) ||| z) j = (decide (j < i + 1) && (decide (64 * k + (i + 1 - 1 - j) < w) && p (64 * k + (i + 1 - 1 - j)))) := by
      intro b z hb hz j hj
      rw [lb_or, show (1 : Int32) = nI 1 from rfl, lb_shlc acc 1 (by omega) hj, hz j]
      by_cases q : j = 0
      · subst q
        rw [decide_eq_false (show ¬ 1 ≤ 0 by omega), Bool.false_and, Bool.false_or, decide_eq_true rfl, Bool.true_and, hb, decide_eq_true (show 0 < i + 1 by omega), Bool.true_and, show i + 1 - 1 - 0 = i by omega]
      · rw [decide_eq_true (show 1 ≤ j by omega), Bool.true_and, decide_eq_false q, Bool.false_and, Bool.or_false, hacc (j - 1) (by omega)]
        by_cases q2 : j < i + 1
        · rw [decide_eq_true (show j - 1 < i by omega), decide_eq_true q2, show i - 1 - (j - 1) = i + 1 - 1 - j by omega]
        · rw [decide_eq_false (show ¬ j - 1 < i by omega), decide_eq_false q2, Bool.false_and, Bool.false_and]
    rw [lp_Ref_printed_159e4, if_neg (show ¬ (64 : Int32) ≤ nI i from nI_ge (b := 64) (by omega) (by omega)), hwp, ex, nI_1]
    by_cases qw : w ≤ 64 * k + i
    · rw [if_pos (nI_le qw (by omega))]
      exact ih (i + 1) n _ (by omega) (by omega) (hstep false 0 (by rw [decide_eq_false (show ¬ 64 * k + i < w by omega), Bool.false_and]) (fun j => by rw [lb_0, Bool.and_false]))
    · rw [if_neg (nI_ge (by omega) (by omega)), if_neg (nI_ge (by omega) (by omega)), if_pos (dk_in_nI (by omega) (by omega)), nI_clamp (by omega), hd (64 * k + i) (by omega)]
      cases hp : p (64 * k + i) with
      | false =>
        rw [if_pos (show nI false.toNat = 0 from rfl)]
        exact ih (i + 1) n _ (by omega) (by omega) (hstep false 0 (by rw [hp, Bool.and_false]) (fun j => by rw [lb_0, Bool.and_false]))
      | true =>
        rw [if_neg (show ¬ nI true.toNat = 0 by decide)]
        exact ih (i + 1) n _ (by omega) (by omega) (hstep true 1 (by rw [hp, decide_eq_true (show 64 * k + i < w by omega)]; rfl) (fun j => by rw [lb_1, Bool.and_true]))
theorem mv_c {N w pl n h y : Nat} {b : Int64} {g wr br wb bb gb gm : Nat → Int32} (hN : 20000 < N) (hw : w ≤ 10000) (hpl : pl + n ≤ 65536) (hT : rdT wr br wb bb gb gm) (hh : h ≤ 20000) (hy : y < h) (hseq : ∀ v, v < h → (lineA (sbit false g pl) (8 * n) w (seqA (sbit false g pl) (8 * n) w (fun _ => false) 0 v).2 (seqA (sbit false g pl) (8 * n) w (fun _ => false) 0 v).1).2.1 = 0 ∧ (seqA (sbit false g pl) (8 * n) w (fun _ => false) 0 v).1 ≤ 8 * n) :
    ∀ (r v m : Nat) (o : ob_Ref) (tu : Int32) (gl ga : Nat → Int32), v + r = y + 1 → r < m → fd_Ref_viewLine o = nI v - 1 → dots w ga (seqA (sbit false g pl) (8 * n) w (fun _ => false) 0 v).2 → ∃ tu' gl' ga', lp_Ref_printed_123 N g wr br wb bb gb gm (nI y) m gl o (rL w b pl n false (seqA (sbit false g pl) (8 * n) w (fun _ => false) 0 v).1 0 0 tu) ga = some (gl', fs_Ref_viewLine o (nI y), (rL w b pl n false (seqA (sbit false g pl) (8 * n) w (fun _ => false) 0 (y + 1)).1 0 0 tu'), ga') ∧ dots w ga' (seqA (sbit false g pl) (8 * n) w (fun _ => false) 0 (y + 1)).2 := by
  intro r
  induction r with
  | zero =>
    intro v m o tu gl ga hv hm ho hd
    obtain ⟨m, rfl⟩ : ∃ q, m = q + 1 := ⟨m - 1, by omega⟩
    have ev : v = y + 1 := by omega
    subst ev
    have eo : fs_Ref_viewLine o (nI y) = o := by
      rw [show nI y = fd_Ref_viewLine o from ((nI_sub (a := y + 1) (b := 1) (by omega)).symm).trans ho.symm]
    refine ⟨tu, gl, ga, ?_, hd⟩
    rw [eo, lp_Ref_printed_123]
    exact if_pos (show nI y ≤ fd_Ref_viewLine o by rw [ho, show nI (y + 1) - 1 = nI y from nI_sub (a := y + 1) (b := 1) (by omega)]; exact Int32.le_of_eq rfl)
  | succ r ih =>
    intro v m o tu gl ga hv hm ho hd
    obtain ⟨m, rfl⟩ : ∃ q, m = q + 1 := ⟨m - 1, by omega⟩
    obtain ⟨s1, s2⟩ := hseq v (by omega)
    obtain ⟨tu1, gl1, ga1, e1, e2, e3⟩ := ml_read (N := N) (b := b) (t := false) (tu := tu) (g := g) (gl := gl) hN hw hpl hT hd s2
    have hs : seqA (sbit false g pl) (8 * n) w (fun _ => false) 0 (v + 1) = ((lineA (sbit false g pl) (8 * n) w (seqA (sbit false g pl) (8 * n) w (fun _ => false) 0 v).2 (seqA (sbit false g pl) (8 * n) w (fun _ => false) 0 v).1).1, (lineA (sbit false g pl) (8 * n) w (seqA (sbit false g pl) (8 * n) w (fun _ => false) 0 v).2 (seqA (sbit false g pl) (8 * n) w (fun _ => false) 0 v).1).2.2) := rfl
    have hd1 := e2 s1
    rw [s1] at e1
    obtain ⟨tu2, gl2, ga2, f1, f2⟩ := ih (v + 1) m (fs_Ref_viewLine o (fd_Ref_viewLine o + 1)) tu1 gl1 ga1 (by omega) (by omega) (by
      show fd_Ref_viewLine o + 1 = nI (v + 1) - 1
      rw [ho, show nI (v + 1) - 1 = nI v from nI_sub (a := v + 1) (b := 1) (by omega)]; exact Int32.sub_add_cancel _ _) (by rw [hs]; exact hd1)
    refine ⟨tu2, gl2, ga2, ?_, f2⟩
    rw [lp_Ref_printed_123]
    refine (if_neg (show ¬ nI y ≤ fd_Ref_viewLine o by
      rw [ho, Int32.le_iff_toInt_le, show (1 : Int32) = nI 1 from rfl, nI_sub_toInt (by omega) (by omega), nI_toInt (by omega)]; omega)).trans ?_
    refine (bind_eq e1).trans ?_
    rw [hs] at f1
    exact f1
theorem mv_d {N w pl n h y : Nat} {b : Int64} {g wr br wb bb gb gm : Nat → Int32} (hN : 20000 < N) (hw : w ≤ 10000) (hpl : pl + n ≤ 65536) (hT : rdT wr br wb bb gb gm) (hh : h ≤ 20000) (hy : y < h) (hseq : ∀ v, v < h → (lineA (sbit false g pl) (8 * n) w (seqA (sbit false g pl) (8 * n) w (fun _ => false) 0 v).2 (seqA (sbit false g pl) (8 * n) w (fun _ => false) 0 v).1).2.1 = 0 ∧ (seqA (sbit false g pl) (8 * n) w (fun _ => false) 0 v).1 ≤ 8 * n) :
    ∀ (r v m : Nat) (o : ob_Ref) (tu : Int32) (gl ga : Nat → Int32), v + r = y + 1 → r < m → fd_Ref_viewLine o = nI v - 1 → dots w ga (seqA (sbit false g pl) (8 * n) w (fun _ => false) 0 v).2 → ∃ tu' gl' ga', lp_Ref_printed_123d3 N g wr br wb bb gb gm (nI y) m (rL w b pl n false (seqA (sbit false g pl) (8 * n) w (fun _ => false) 0 v).1 0 0 tu) ga gl o = some ((rL w b pl n false (seqA (sbit false g pl) (8 * n) w (fun _ => false) 0 (y + 1)).1 0 0 tu'), ga', gl', fs_Ref_viewLine o (nI y)) ∧ dots w ga' (seqA (sbit false g pl) (8 * n) w (fun _ => false) 0 (y + 1)).2 := by
  intro r
  induction r with
  | zero =>
    intro v m o tu gl ga hv hm ho hd
    obtain ⟨m, rfl⟩ : ∃ q, m = q + 1 := ⟨m - 1, by omega⟩
    have ev : v = y + 1 := by omega
    subst ev
    have eo : fs_Ref_viewLine o (nI y) = o := by
      rw [show nI y = fd_Ref_viewLine o from ((nI_sub (a := y + 1) (b := 1) (by omega)).symm).trans ho.symm]
    refine ⟨tu, gl, ga, ?_, hd⟩
    rw [eo, lp_Ref_printed_123d3]
    exact if_pos (show nI y ≤ fd_Ref_viewLine o by rw [ho, show nI (y + 1) - 1 = nI y from nI_sub (a := y + 1) (b := 1) (by omega)]; exact Int32.le_of_eq rfl)
  | succ r ih =>
    intro v m o tu gl ga hv hm ho hd
    obtain ⟨m, rfl⟩ : ∃ q, m = q + 1 := ⟨m - 1, by omega⟩
    obtain ⟨s1, s2⟩ := hseq v (by omega)
    obtain ⟨tu1, gl1, ga1, e1, e2, e3⟩ := ml_read (N := N) (b := b) (t := false) (tu := tu) (g := g) (gl := gl) hN hw hpl hT hd s2
    have hs : seqA (sbit false g pl) (8 * n) w (fun _ => false) 0 (v + 1) = ((lineA (sbit false g pl) (8 * n) w (seqA (sbit false g pl) (8 * n) w (fun _ => false) 0 v).2 (seqA (sbit false g pl) (8 * n) w (fun _ => false) 0 v).1).1, (lineA (sbit false g pl) (8 * n) w (seqA (sbit false g pl) (8 * n) w (fun _ => false) 0 v).2 (seqA (sbit false g pl) (8 * n) w (fun _ => false) 0 v).1).2.2) := rfl
    have hd1 := e2 s1
    rw [s1] at e1
    obtain ⟨tu2, gl2, ga2, f1, f2⟩ := ih (v + 1) m (fs_Ref_viewLine o (fd_Ref_viewLine o + 1)) tu1 gl1 ga1 (by omega) (by omega) (by
      show fd_Ref_viewLine o + 1 = nI (v + 1) - 1
      rw [ho, show nI (v + 1) - 1 = nI v from nI_sub (a := v + 1) (b := 1) (by omega)]; exact Int32.sub_add_cancel _ _) (by rw [hs]; exact hd1)
    refine ⟨tu2, gl2, ga2, ?_, f2⟩
    rw [lp_Ref_printed_123d3]
    refine (if_neg (show ¬ nI y ≤ fd_Ref_viewLine o by
      rw [ho, Int32.le_iff_toInt_le, show (1 : Int32) = nI 1 from rfl, nI_sub_toInt (by omega) (by omega), nI_toInt (by omega)]; omega)).trans ?_
    refine (bind_eq e1).trans ?_
    rw [hs] at f1
    exact f1
