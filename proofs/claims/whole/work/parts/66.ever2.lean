/-! ever (2): evenings one after another; where a memory comes again -/
def seqM (T : TT) (C : CC) (la : Int → Int) : Nat → Int → Int
  | 0 => la
  | e + 1 => (evE T C (seqM T C la e)).la
def memE (T : TT) (C : CC) (la : Int → Int) (e : Nat) : Int := memK (seqM T C la e) T.ng.toNat
/-- the first place before k that holds what place e holds; -1: none -/
def firstK (mem : Nat → Int) (e : Nat) : Nat → Int
  | 0 => -1
  | k + 1 => if firstK mem e k ≠ -1 then firstK mem e k else if mem k = mem e then k else -1
/-- the first place up to N that holds what an earlier one holds; -1: none -/
def ringE (mem : Nat → Int) : Nat → Int
  | 0 => -1
  | e + 1 => if ringE mem e ≠ -1 then ringE mem e else if firstK mem (e + 1) (e + 1) ≠ -1 then (e : Int) + 1 else -1
theorem firstK_in {mem : Nat → Int} {e : Nat} : ∀ k : Nat, (firstK mem e k = -1 ∧ ∀ j : Nat, j < k → mem j ≠ mem e) ∨ (∃ j : Nat, j < k ∧ firstK mem e k = j ∧ mem j = mem e ∧ ∀ i : Nat, i < j → mem i ≠ mem e)
  | 0 => Or.inl ⟨rfl, fun j h => by omega⟩
  | k + 1 => by
    rcases firstK_in (mem := mem) (e := e) k with ⟨a, b⟩ | ⟨j, j1, j2, j3, j4⟩
    · by_cases hq : mem k = mem e
      · refine Or.inr ⟨k, by omega, ?_, hq, b⟩
        unfold firstK
        rw [if_neg (by omega), if_pos hq]
      · refine Or.inl ⟨?_, fun j hj => ?_⟩
        · unfold firstK
          rw [if_neg (by omega), if_neg hq]
        · by_cases hj2 : j = k
          · rw [hj2]
            exact hq
          · exact b j (by omega)
    · refine Or.inr ⟨j, by omega, ?_, j3, j4⟩
      unfold firstK
      rw [if_pos (by omega)]
      exact j2
theorem ringE_in {mem : Nat → Int} : ∀ N : Nat, ringE mem N = -1 ∨ (1 ≤ ringE mem N ∧ ringE mem N ≤ N)
  | 0 => Or.inl rfl
  | N + 1 => by
    have ih := ringE_in (mem := mem) N
    unfold ringE
    split
    · omega
    · split
      · omega
      · exact Or.inl rfl
theorem ringE_up {mem : Nat → Int} {N : Nat} (h : ringE mem N ≠ -1) : ∀ m : Nat, N ≤ m → ringE mem m = ringE mem N
  | 0, hm => by rw [show N = 0 by omega]
  | m + 1, hm => by
    by_cases hq : N = m + 1
    · rw [hq]
    · have ih := ringE_up h m (by omega)
      show (if ringE mem m ≠ -1 then ringE mem m else _) = _
      rw [if_pos (by omega)]
      exact ih
theorem ringE_at {mem : Nat → Int} {e : Nat} (h : ringE mem e = -1) (hf : firstK mem (e + 1) (e + 1) ≠ -1) : ringE mem (e + 1) = (e : Int) + 1 := by
  unfold ringE
  rw [if_neg (by omega), if_pos hf]
theorem ringE_go {mem : Nat → Int} {e : Nat} (h : ringE mem e = -1) (hf : firstK mem (e + 1) (e + 1) = -1) : ringE mem (e + 1) = -1 := by
  unfold ringE
  rw [if_neg (by omega), if_neg (by omega)]
theorem ringE_no {mem : Nat → Int} {i j N : Nat} (hij : i < j) (hj : j ≤ N) (hm : mem i = mem j) : ringE mem N ≠ -1 := by
  intro q
  have h1 : ∀ m : Nat, m ≤ N → ringE mem m = -1 := fun m hm => by
    by_cases z : ringE mem m = -1
    · exact z
    · have := ringE_up z N hm
      omega
  obtain ⟨j', rfl⟩ : ∃ j', j = j' + 1 := ⟨j - 1, by omega⟩
  have h2 := h1 (j' + 1) hj
  have h3 : firstK mem (j' + 1) (j' + 1) ≠ -1 := by
    rcases firstK_in (mem := mem) (e := j' + 1) (j' + 1) with ⟨-, b⟩ | ⟨k, k1, k2, -⟩
    · exact absurd hm (b i hij)
    · omega
  have := ringE_at (h1 j' (by omega)) h3
  omega
theorem seqM_la2 {T : TT} (hT : T.ok) {C : CC} {la : Int → Int} (h : LA2 T la) : ∀ e, LA2 T (seqM T C la e)
  | 0 => h
  | e + 1 => evE_la2 hT (seqM_la2 hT h e)
/-- a memory comes again within 129 evenings -/
theorem ring_129 {T : TT} (hT : T.ok) {C : CC} (hC : C.ok T) (hall : ∀ g, 0 ≤ g → g < T.ng → ∃ s, 0 ≤ s ∧ s < C.se ∧ tgt C s = g) {la : Int → Int} : 1 ≤ ringE (memE T C la) 129 ∧ ringE (memE T C la) 129 ≤ 129 := by
  have hn := hT.2.1
  have p : (2 : Int) ^ T.ng.toNat ≤ 128 := by
    have a : (2 : Nat) ^ T.ng.toNat ≤ 2 ^ 7 := Nat.pow_le_pow_right (by omega) (by omega)
    have b : (2 : Int) ^ T.ng.toNat = ((2 ^ T.ng.toNat : Nat) : Int) := by rw [Int.natCast_pow]; rfl
    rw [b]
    omega
  obtain ⟨i, j, i1, i2, i3⟩ := pigeon 128 (fun e => bitK T (seqM T C la e) T.ng.toNat) (fun i _ => by
    have := bitK_in (T := T) (la := seqM T C la i) T.ng.toNat
    show 0 ≤ bitK T (seqM T C la i) T.ng.toNat ∧ bitK T (seqM T C la i) T.ng.toNat < ((128 : Nat) : Int)
    omega)
  have hb : ∀ g, 0 ≤ g → g < T.ng → bitC T (seqM T C la i) g = bitC T (seqM T C la j) g := fun g g0 g1 => bitK_inj T.ng.toNat i3 g g0 (by omega)
  have hm : memE T C la (i + 1) = memE T C la (j + 1) := memK_congr _ (fun g g0 g1 => evE_bits hC hall hb g0 (by omega))
  have h1 := ringE_no (N := 129) (by omega : i + 1 < j + 1) (by omega) hm
  rcases ringE_in (mem := memE T C la) 129 with q | q
  · exact absurd q h1
  · omega
