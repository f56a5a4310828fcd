/-! the reference's evenings: dine, gets, glad, pays -/
/-- what laying and an evening leave -/
def frN (I I' : qI) (m : Nat) : Prop := ∀ b i, ¬ (b = m ∧ (i = 28 ∨ i = 30 ∨ i = 33)) → ¬ (m + 19 ≤ b ∧ b ≤ m + 25) → I' b i = I b i
theorem frN.rf {I : qI} {m : Nat} : frN I I m := fun _ _ _ _ => rfl
theorem frN.tr {I I1 I2 : qI} {m : Nat} (h1 : frN I I1 m) (h2 : frN I1 I2 m) : frN I I2 m := fun b i q0 q1 => (h2 b i q0 q1).trans (h1 b i q0 q1)
theorem mC.cg {I I' : qI} {m : Nat} {T : TT} {C : CC} (h : mC I m T C) (hf : ∀ b i, (b = m ∧ (i = 28 ∨ i = 30 ∨ i = 17)) ∨ b = m + 19 ∨ b = m + 21 ∨ b = m + 10 → I' b i = I b i) : mC I' m T C := by
  obtain ⟨h1, h2, h3, h4, h5⟩ := h
  refine ⟨by rw [hf _ _ (by omega)]; exact h1, by rw [hf _ _ (by omega)]; exact h2, by rw [hf _ _ (by omega)]; exact h3, fun s s0 s1 => by rw [hf _ _ (by omega)]; exact h4 s s0 s1, fun g g0 g1 => ?_⟩
  rw [hf _ _ (by omega)]
  obtain ⟨a1, a2⟩ := h5 g g0 g1
  exact ⟨a1, fun d d0 d1 w => by rw [hf _ _ (by omega)]; exact a2 d d0 d1 w⟩
