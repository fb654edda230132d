theorem bl_1 (x : Int32) : ¬ bl_of x = 0 := by
  unfold bl_of
  by_cases c : 1 < (if x < 1024 then x else 1024)
  · rw [if_pos c]
    intro e
    rw [e] at c
    exact absurd c (by decide)
  · rw [if_neg c]; decide
theorem jV0 {N bb dw dn : Nat} {x1 x2 d1 d2 : Int32} {fc0 sv g : Nat → Int32} (hN : 2 ^ 24 < N) (hd1 : d1 = dp_of x1) (hbb : bb ≤ 1024) (ebb : bl_of x2 = nI bb) (hdw : dw ≤ 52) (edw : (79200 * d1 / 7200 + 63) / 64 = nI dw) (hd2 : d2 = dp_of x1) (hdn : dn ≤ 265200) (edn : (11 * d2 + 63) / 64 * 17 * d2 = nI dn) (hg : ∀ j, j < 53 → g j = 0) : ∃ d, jV N d 0 (kS0 d1 bb dw fc0) (mS0 d2 dn sv g) := by
  have hb1 : 1 ≤ bb := by
    rcases Nat.eq_zero_or_pos bb with q | q
    · rw [q] at ebb; exact absurd ebb (bl_1 x2)
    · exact q
  rcases dp_cases x1 with h | h | h
  · rw [h] at hd1 hd2
    subst hd1; subst hd2
    have e1 : dw = 13 := ((nI_eq (a := 13) (by omega) (by omega)).mp ((show nI 13 = (79200 * (75 : Int32) / 7200 + 63) / 64 by decide).trans edw)).symm
    have e2 : dn = 16575 := ((nI_eq (a := 16575) (by omega) (by omega)).mp ((show nI 16575 = (11 * (75 : Int32) + 63) / 64 * 17 * 75 by decide).trans edn)).symm
    subst e1; subst e2
    exact ⟨75, jV1 (d := 75) (sd := 13) hN (Or.inl rfl) (by decide) (by decide) (by decide) (by decide) (by decide) hb1 hbb hdw hdn hg⟩
  · rw [h] at hd1 hd2
    subst hd1; subst hd2
    have e1 : dw = 26 := ((nI_eq (a := 26) (by omega) (by omega)).mp ((show nI 26 = (79200 * (150 : Int32) / 7200 + 63) / 64 by decide).trans edw)).symm
    have e2 : dn = 66300 := ((nI_eq (a := 66300) (by omega) (by omega)).mp ((show nI 66300 = (11 * (150 : Int32) + 63) / 64 * 17 * 150 by decide).trans edn)).symm
    subst e1; subst e2
    exact ⟨150, jV1 (d := 150) (sd := 26) hN (Or.inr (Or.inl rfl)) (by decide) (by decide) (by decide) (by decide) (by decide) hb1 hbb hdw hdn hg⟩
  · rw [h] at hd1 hd2
    subst hd1; subst hd2
    have e1 : dw = 52 := ((nI_eq (a := 52) (by omega) (by omega)).mp ((show nI 52 = (79200 * (300 : Int32) / 7200 + 63) / 64 by decide).trans edw)).symm
    have e2 : dn = 265200 := ((nI_eq (a := 265200) (by omega) (by omega)).mp ((show nI 265200 = (11 * (300 : Int32) + 63) / 64 * 17 * 300 by decide).trans edn)).symm
    subst e1; subst e2
    exact ⟨300, jV1 (d := 300) (sd := 52) hN (Or.inr (Or.inr rfl)) (by decide) (by decide) (by decide) (by decide) (by decide) hb1 hbb hdw hdn hg⟩
