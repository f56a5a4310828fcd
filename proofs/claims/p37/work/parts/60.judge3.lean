/-! the reference's judge -/
section JUDGE3
variable {l : Launch} {E : qEv} {n : Nat} {sh : qSh} {I L : qI} {R : qR}
theorem refRF {V : VV} {k so i z : Int} (hk : 0 ≤ k ∧ k < 4) (hso : 0 ≤ so ∧ so ≤ 2) : (refF V k so i z = 0 ∧ refR V k so i z = 0) ∨ (1 ≤ refF V k so i z ∧ refF V k so i z ≤ 4 ∧ refR V k so i z = -10 - refF V k so i z) := by
  have A : ¬ ¬ (0 ≤ k ∧ k < 4) := fun q => q hk
  have B : ¬ ¬ (0 ≤ so ∧ so ≤ 2) := fun q => q hso
  unfold refF refR
  rw [if_neg A, if_neg B, if_neg A, if_neg B]
  by_cases c1 : V.th k ≠ 1
  · rw [if_pos c1, if_pos c1]
    omega
  · rw [if_neg c1, if_neg c1]
    by_cases c2 : V.so k ≠ so
    · rw [if_pos c2, if_pos c2]
      omega
    · rw [if_neg c2, if_neg c2]
      by_cases c3 : z < 0
      · rw [if_pos c3, if_pos c3]
        omega
      · rw [if_neg c3, if_neg c3]
        by_cases c4 : 0 ≤ i ∧ i ≤ V.sl k ∧ z ≤ V.sl k - i
        · rw [if_pos c4, if_pos c4]
          omega
        · rw [if_neg c4, if_neg c4]
          omega
end JUDGE3
