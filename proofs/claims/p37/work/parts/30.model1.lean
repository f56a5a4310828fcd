/-! the reference: one asks -/
/-- as it is laid -/
def mC (I : qI) (m : Nat) (T : TT) (C : CC) : Prop := I m 28 = C.se ∧ I m 30 = C.st ∧ I m 17 = C.co ∧ (∀ s, 0 ≤ s → s < C.se → I (m + 19) s = C.od s) ∧ ∀ g, 0 ≤ g → g < T.ng → I (m + 21) g = C.kd g ∧ ∀ d, 0 ≤ d → d < T.nd → T.wo g d ≠ -1 → I (m + 10) (6 * g + d) = C.sa g d
