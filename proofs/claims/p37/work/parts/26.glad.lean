/-! how glad one is of a course: at its end -/
/-- the seat from which one asks for him who sits in i -/
def askSeat (C : CC) (i : Int) : Int := (i - C.st) % C.se
theorem askSeat_in {T : TT} {C : CC} (hC : C.ok T) (i : Int) : 0 ≤ askSeat C i ∧ askSeat C i < C.se :=
  ⟨Int.emod_nonneg _ (by have := hC.1; omega), Int.emod_lt_of_pos _ (by have := hC.1; omega)⟩
theorem askSeat_tgt {T : TT} {C : CC} (hC : C.ok T) {i : Int} (h0 : 0 ≤ i) (h1 : i < C.se) : tgt C (askSeat C i) = C.od i := by
  unfold tgt askSeat
  rw [Int.emod_add_emod, show i - C.st + C.st = i by omega, Int.emod_eq_of_lt h0 h1]
