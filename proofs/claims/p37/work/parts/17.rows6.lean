/-! fewer locals -/
def ldel (i : Nat) : List (Nat × Value) → List (Nat × Value)
  | [] => []
  | (j, w) :: r => match Nat.beq j i with
    | true => ldel i r
    | false => (j, w) :: ldel i r
theorem ldel_mem {i : Nat} {q : Nat × Value} : ∀ {l : List (Nat × Value)}, q ∈ ldel i l → q ∈ l
  | [], h => by cases h
  | (j, w) :: r, h => by
    unfold ldel at h
    cases hb : Nat.beq j i with
    | true =>
      rw [hb] at h
      exact List.mem_cons_of_mem _ (ldel_mem h)
    | false =>
      rw [hb] at h
      rcases List.mem_cons.mp h with h | h
      · rw [h]; exact List.mem_cons_self
      · exact List.mem_cons_of_mem _ (ldel_mem h)
theorem wk_del {l : Launch} {E : qEv} {Y : qMo} {M : qMD} {k j pc i : Nat} {lo lo' : List (Nat × Value)} {st : List Value} {S : qS} (hs : ldel i lo = lo') (h : Wk l E Y M k j pc lo' st S) : Wk l E Y M k j pc lo st S := by
  subst hs
  intro p e s m args below meth c H locs ls hB hH hl
  exact h p e s m args below meth c H locs ls hB hH ⟨hl.1, hl.2.1, fun q hq => hl.2.2 q (ldel_mem hq)⟩

