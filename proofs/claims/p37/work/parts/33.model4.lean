/-! the reference: an evening; as it is laid; sums -/
def sumI (f : Int → Int) : Nat → Int
  | 0 => 0
  | k + 1 => sumI f k + f k
def leastI (f : Int → Int) : Nat → Int
  | 0 => f 0
  | k + 1 => min (leastI f k) (f ((k : Int) + 1))
section MODEL4
variable {l : Launch} {E : qEv} {n : Nat} {sh : qSh} {I L : qI} {R : qR}
/-- it is the table as it stands: all sit, each of his kind, no spite -/
def CC.now (C : CC) (T : TT) : Prop := C.ok T ∧ C.se = T.ng ∧ (∀ g, C.kd g = T.kd g) ∧ C.sp = -1 ∧ ∀ g, 0 ≤ g → g < T.ng → ∃ s, 0 ≤ s ∧ s < T.ng ∧ C.od s = g
end MODEL4
