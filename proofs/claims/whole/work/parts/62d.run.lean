/-- **every run of calls: the loop ends with true** -/
theorem lp_ok {N L d : Nat} {xs : Nat → Int32} (hN : 2 ^ 24 < N) (hL : L ≤ 3074) : ∀ (n k : Nat) (kS : CS) (mS : RS) (q1 q2 : Nat → Int32) (fu : Nat → Int64), n + k = 513 → k ≤ 512 → jV N d k kS mS → lp_law N L xs n (nI (2 + 6 * k)) kS mS q1 q2 fu = some () := by
  intro n
  induction n with
  | zero => intro k kS mS q1 q2 fu h1 h2; omega
  | succ n ih =>
    intro k kS mS q1 q2 fu h1 h2 hV
    rw [lp_law]
    by_cases c : Int32.ofNat L - 6 < nI (2 + 6 * k)
    · exact if_pos c
    · refine (if_neg c).trans ?_
      have hl : 8 + 6 * k ≤ L := by
        rw [Int32.lt_iff_toInt_lt, show Int32.ofNat L - 6 = nI L - nI 6 from rfl, nI_sub_toInt (by omega) (by omega), nI_toInt (by omega)] at c
        omega
      have hk : k < 512 := by omega
      have g (j : Nat) (hj : j ≤ 5) : dk_in (nI (2 + 6 * k) + nI j) L := by rw [nI_add]; exact dk_in_nI (by omega) (by omega)
      have g0 : dk_in (nI (2 + 6 * k)) L := dk_in_nI (by omega) (by omega)
      have hr : recK N d (k + 1) (lp_law N L xs n (nI (2 + 6 * k) + 6)) := by
        intro s m a b f h
        rw [show nI (2 + 6 * k) + 6 = nI (2 + 6 * (k + 1)) by rw [show (6 : Int32) = nI 6 from rfl, nI_add]; congr 1]
        exact ih (k + 1) s m a b f (by omega) (by omega) h
      refine (if_pos g0).trans ?_
      by_cases c0 : xs (nI (2 + 6 * k)).toNatClampNeg &&& 7 = 0
      · exact (if_pos c0).trans (lc0_ok hN (g 1 (by omega)) (g 2 (by omega)) (g 3 (by omega)) (g 4 (by omega)) (g 5 (by omega)) hV hr)
      refine (if_neg c0).trans ?_
      by_cases c1 : xs (nI (2 + 6 * k)).toNatClampNeg &&& 7 = 1
      · exact (if_pos c1).trans (lc1_ok hN hk (g 1 (by omega)) (g 2 (by omega)) hV hr)
      refine (if_neg c1).trans ?_
      by_cases c2 : xs (nI (2 + 6 * k)).toNatClampNeg &&& 7 = 2
      · exact (if_pos c2).trans (lc2_ok hN hk hV hr)
      refine (if_neg c2).trans ?_
      by_cases c3 : xs (nI (2 + 6 * k)).toNatClampNeg &&& 7 = 3
      · exact (if_pos c3).trans (lc3_ok hN (by omega) (g 1 (by omega)) hV hr)
      refine (if_neg c3).trans ?_
      by_cases c4 : xs (nI (2 + 6 * k)).toNatClampNeg &&& 7 = 4
      · exact (if_pos c4).trans (lc4_ok (by omega) (g 1 (by omega)) (g 2 (by omega)) hV hr)
      refine (if_neg c4).trans ?_
      by_cases c5 : xs (nI (2 + 6 * k)).toNatClampNeg &&& 7 = 5
      · exact (if_pos c5).trans (lc5_ok hN (by omega) (g 1 (by omega)) (g 2 (by omega)) (g 3 (by omega)) hV hr)
      refine (if_neg c5).trans ?_
      by_cases c6 : xs (nI (2 + 6 * k)).toNatClampNeg &&& 7 = 6
      · exact (if_pos c6).trans (lc6_ok hN (by omega) (g 1 (by omega)) hV hr)
      refine (if_neg c6).trans ?_
      refine hr _ _ _ _ _ ?_
      obtain ⟨T, tp, hT, hV, h1, h2, h3, h4⟩ := hV
      exact ⟨T, tp, by omega, hV, h1, jZ_le (Nat.le_succ k) h2, h3, h4⟩
