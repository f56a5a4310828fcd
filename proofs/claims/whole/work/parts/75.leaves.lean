/-! leaves: its math; the class's -/
def p2 (g : Int) : Int := ((2 ^ g.toNat : Nat) : Int)
theorem p2_in {g : Int} (h : 0 ≤ g ∧ g < 7) : 1 ≤ p2 g ∧ p2 g ≤ 64 := by
  rcases (by omega : g = 0 ∨ g = 1 ∨ g = 2 ∨ g = 3 ∨ g = 4 ∨ g = 5 ∨ g = 6) with q | q | q | q | q | q | q <;> subst q <;> decide
theorem p2_succ (k : Nat) : p2 ((k : Int) + 1) = 2 * p2 k := by
  unfold p2
  rw [show ((k : Int) + 1).toNat = k + 1 by omega, show ((k : Int)).toNat = k by omega, Nat.pow_succ]
  omega
theorem zShl_p2 {g : Int} (h : 0 ≤ g ∧ g < 7) : zShl 1 g = p2 g := by
  rcases (by omega : g = 0 ∨ g = 1 ∨ g = 2 ∨ g = 3 ∨ g = 4 ∨ g = 5 ∨ g = 6) with q | q | q | q | q | q | q <;> subst q <;> decide +kernel
theorem zOr_0 {a : Int} (h0 : 0 ≤ a) (h1 : a < 1000) : zOr a 0 = a := by
  unfold zOr
  rw [zI_nI h0, zI_nI (by omega : (0 : Int) ≤ 0), nI_or]
  have e : nI (a.toNat ||| (0 : Int).toNat) = zI a := by
    rw [zI_nI h0]
    exact congrArg nI (Nat.or_zero _)
  rw [e, zI_toInt ⟨by omega, by omega⟩]
theorem zOr_p2 {a g : Int} (hg : 0 ≤ g ∧ g < 7) (h0 : 0 ≤ a) (h1 : a < p2 g) : zOr a (p2 g) = a + p2 g := by
  have hp := p2_in hg
  unfold zOr
  rw [zI_nI h0, zI_nI (by omega), nI_or]
  have e1 : (p2 g).toNat = 2 ^ g.toNat * 1 := by
    unfold p2
    omega
  have e2 : a.toNat < 2 ^ g.toNat := by
    have : (p2 g).toNat = 2 ^ g.toNat := by unfold p2; omega
    omega
  have e : nI (a.toNat ||| (p2 g).toNat) = zI (a + p2 g) := by
    rw [zI_nI (by omega), e1, Nat.or_comm, ← Nat.two_pow_add_eq_or_of_lt e2, ← e1]
    exact congrArg nI (by omega)
  rw [e, zI_toInt ⟨by omega, by omega⟩]
theorem zOr_p2' {a g : Int} (hg : 0 ≤ g ∧ g < 7) (h0 : 0 ≤ a) (h1 : a < p2 g) : zOr (a + p2 g) (p2 g) = a + p2 g := by
  have hp := p2_in hg
  have h := zOr_p2 hg h0 h1
  unfold zOr at h ⊢
  have e1 : zI (a + p2 g) = zI a ||| zI (p2 g) := by
    rw [← h]
    exact zI_of _
  rw [e1]
  have e2 : (zI a ||| zI (p2 g)) ||| zI (p2 g) = zI a ||| zI (p2 g) := by
    rw [zI_nI h0, zI_nI (by omega : 0 ≤ p2 g), nI_or, nI_or, Nat.or_assoc, Nat.or_self]
  rw [e2]
  exact h
def kdC (V : VV) (g k : Int) : CC := (V.C.sa, u1 V.C.kd g k, V.C.od, V.C.se, V.C.st, V.C.co, V.C.sp)
theorem kdC_ok {V : VV} (h : V.C.ok V.T) {g k : Int} (hk : 0 ≤ k ∧ k ≤ 2) : (kdC V g k).ok V.T := by
  obtain ⟨z1, z2, z3, z4, z5, z6, z7, z8, z9, z10, z11⟩ := h
  refine ⟨z1, z2, z3, z4, z5, z6, z7, z8, z9, z10, fun a a0 a1 => ?_⟩
  obtain ⟨y1, y2, y3⟩ := z11 a a0 a1
  refine ⟨?_, ?_, y3⟩
  · show 0 ≤ u1 V.C.kd g k a
    by_cases hq : a = g
    · rw [hq, u1_eq]
      exact hk.1
    · rw [u1_ne hq]
      exact y1
  · show u1 V.C.kd g k a ≤ 2
    by_cases hq : a = g
    · rw [hq, u1_eq]
      exact hk.2
    · rw [u1_ne hq]
      exact y2
theorem kdC_all {V : VV} (h : V.C.now V.T) (g' k : Int) : ∀ g, 0 ≤ g → g < V.T.ng → ∃ s, 0 ≤ s ∧ s < (kdC V g' k).se ∧ tgt (kdC V g' k) s = g := fun g g0 g1 => h.all g0 g1
/-- whether one of another kind were gladder: 1 or 0 -/
def levD (V : VV) (g k : Int) : Int := if gladS V.T V.C V.la (ringL V.T V.C V.la).toNat g * ringL V.T (kdC V g k) V.la < gladS V.T (kdC V g k) V.la (ringL V.T (kdC V g k) V.la).toNat g * ringL V.T V.C V.la then 1 else 0
def lev (V : VV) (g : Int) : Nat → Int
  | 0 => 0
  | k + 1 => if V.T.kd g ≠ k ∧ levD V g k = 1 then 1 else lev V g k
theorem lev_01 {V : VV} {g : Int} : ∀ k : Nat, lev V g k = 0 ∨ lev V g k = 1
  | 0 => Or.inl rfl
  | k + 1 => by
    unfold lev
    split
    · exact Or.inr rfl
    · exact lev_01 k
def levS (V : VV) : Nat → Int
  | 0 => 0
  | g + 1 => levS V g + (if lev V g 3 = 1 then p2 g else 0)
theorem levS_in {V : VV} : ∀ g : Nat, g ≤ 7 → 0 ≤ levS V g ∧ levS V g < p2 g
  | 0, _ => by
    show (0 : Int) ≤ 0 ∧ (0 : Int) < p2 ((0 : Nat) : Int)
    decide
  | g + 1, h => by
    have ih := levS_in (V := V) g (by omega)
    have e := p2_succ g
    show 0 ≤ levS V g + (if lev V g 3 = 1 then p2 g else 0) ∧ levS V g + (if lev V g 3 = 1 then p2 g else 0) < p2 ((g + 1 : Nat) : Int)
    rw [show ((g + 1 : Nat) : Int) = (g : Int) + 1 by omega, e]
    split <;> omega
def r_leaves (V : VV) : Int := if 0 < V.T.ng then levS V V.T.ng.toNat else -3
