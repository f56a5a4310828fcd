/-! BEST, its math: how glad a row makes, and its digits; what the class's sets hold -/
def dgt (x : Int) : Int := if x < 0 then 0 else 9 - x
def vtm (T : TT) (wt : Int → Int) (g x : Int) : Int := if x < 0 then 0 else wt g * T.wo g x
def trm (T : TT) (wt : Int → Int) (g : Nat) (x : Int) : Int := if x < 0 then 0 else 10000000 * (wt g * T.wo g x) + (9 - x) * p10 g
def valR (T : TT) (wt r : Int → Int) : Nat → Int
  | 0 => 0
  | k + 1 => valR T wt r k + vtm T wt k (r k)
def digR (r : Int → Int) : Nat → Int
  | 0 => 0
  | k + 1 => digR r k + dgt (r k) * p10 k
theorem codeR_s (T : TT) (wt r : Int → Int) (k : Nat) : codeR T wt r (k + 1) = codeR T wt r k + trm T wt k (r k) := rfl
theorem trm_split (T : TT) (wt : Int → Int) (g : Nat) (x : Int) : trm T wt g x = 10000000 * vtm T wt g x + dgt x * p10 g := by
  unfold trm vtm dgt
  split
  · simp
  · rfl
theorem codeR_split (T : TT) (wt r : Int → Int) : ∀ k : Nat, codeR T wt r k = 10000000 * valR T wt r k + digR r k
  | 0 => rfl
  | k + 1 => by
    rw [codeR_s, codeR_split T wt r k, trm_split]
    show _ = 10000000 * (valR T wt r k + vtm T wt k (r k)) + (digR r k + dgt (r k) * p10 k)
    omega
def p11 (n : Nat) : Int := 10 ^ (7 - n)
theorem p11_s (n : Nat) : p11 (n + 1) = p10 n := by
  unfold p11 p10
  rw [show 7 - (n + 1) = 6 - n by omega]
theorem p11_m {n : Nat} (h : n ≤ 6) : p11 n = 10 * p10 n := by
  unfold p11 p10
  rw [show 7 - n = (6 - n) + 1 by omega, Int.pow_succ]
  omega
theorem p10_s {k : Nat} (h : k < 6) : p10 k = 10 * p10 (k + 1) := by
  unfold p10
  rw [show 6 - k = (6 - (k + 1)) + 1 by omega, Int.pow_succ]
  omega
theorem p10_in (k : Nat) : 1 ≤ p10 k ∧ p10 k ≤ 1000000 := by
  rcases (by omega : k = 0 ∨ k = 1 ∨ k = 2 ∨ k = 3 ∨ k = 4 ∨ k = 5 ∨ 6 ≤ k) with rfl | rfl | rfl | rfl | rfl | rfl | h
  · decide
  · decide
  · decide
  · decide
  · decide
  · decide
  · have e : p10 k = 1 := by
      unfold p10
      rw [show 6 - k = 0 by omega]
      rfl
    omega
theorem digR_bd {r : Int → Int} {N : Nat} (h : ∀ g : Nat, g < N → 0 ≤ dgt (r g) ∧ dgt (r g) ≤ 9) (hN : N ≤ 7) : ∀ n : Nat, n ≤ N → 0 ≤ digR r n ∧ digR r n + p11 n ≤ 10000000
  | 0, _ => ⟨Int.le_refl _, by show (0 : Int) + p11 0 ≤ 10000000; decide⟩
  | n + 1, hn => by
    obtain ⟨i1, i2⟩ := digR_bd h hN n (by omega)
    obtain ⟨d1, d2⟩ := h n (by omega)
    have q := p11_m (n := n) (by omega)
    have p := p10_in n
    rw [p11_s]
    have m := Int.mul_le_mul_of_nonneg_right d2 (show 0 ≤ p10 n by omega)
    have m0 := Int.mul_nonneg d1 (show 0 ≤ p10 n by omega)
    show 0 ≤ digR r n + dgt (r n) * p10 n ∧ digR r n + dgt (r n) * p10 n + p10 n ≤ 10000000
    omega
theorem digR_congr {r r' : Int → Int} : ∀ n : Nat, (∀ j : Nat, j < n → dgt (r j) = dgt (r' j)) → digR r n = digR r' n
  | 0, _ => rfl
  | n + 1, h => by
    show digR r n + dgt (r n) * p10 n = digR r' n + dgt (r' n) * p10 n
    rw [digR_congr n (fun j hj => h j (by omega)), h n (by omega)]
theorem digR_lex {r r' : Int → Int} {N k : Nat} (hr : ∀ g : Nat, g < N → 0 ≤ dgt (r g) ∧ dgt (r g) ≤ 9) (hr' : ∀ g : Nat, g < N → 0 ≤ dgt (r' g) ∧ dgt (r' g) ≤ 9) (hN : N ≤ 7) (heq : ∀ j : Nat, j < k → dgt (r j) = dgt (r' j)) (hlt : dgt (r' k) < dgt (r k)) : ∀ n : Nat, k < n → n ≤ N → digR r' n + p11 n ≤ digR r n
  | 0, h, _ => absurd h (by omega)
  | n + 1, h, hn => by
    have q := p11_m (n := n) (by omega)
    have p := p10_in n
    rw [p11_s]
    show digR r' n + dgt (r' n) * p10 n + p10 n ≤ digR r n + dgt (r n) * p10 n
    by_cases e : k = n
    · subst e
      rw [digR_congr k heq]
      have m := Int.mul_le_mul_of_nonneg_right (show dgt (r' k) + 1 ≤ dgt (r k) by omega) (show 0 ≤ p10 k by omega)
      rw [Int.add_mul] at m
      omega
    · have ih := digR_lex hr hr' hN heq hlt n (by omega) (by omega)
      have m := Int.mul_le_mul_of_nonneg_right (hr' n (by omega)).2 (show 0 ≤ p10 n by omega)
      have m0 := Int.mul_nonneg (hr n (by omega)).1 (show 0 ≤ p10 n by omega)
      omega
theorem dig_A {r : Int → Int} (v : Int) : ∀ n : Nat, n ≤ 7 → ∃ A : Int, 10000000 * v + digR r n = A * p11 n
  | 0, _ => ⟨v, by show 10000000 * v + 0 = v * p11 0; rw [show p11 0 = 10000000 by decide]; omega⟩
  | n + 1, hn => by
    obtain ⟨A, hA⟩ := dig_A (r := r) v n (by omega)
    have q := p11_m (n := n) (by omega)
    refine ⟨10 * A + dgt (r n), ?_⟩
    rw [p11_s]
    show 10000000 * v + (digR r n + dgt (r n) * p10 n) = _
    rw [q] at hA
    rw [Int.add_mul, ← Int.add_assoc, hA]
    congr 1
    rw [← Int.mul_assoc, Int.mul_comm A 10]
theorem dig_B {r : Int → Int} {N : Nat} (h : ∀ g : Nat, g < N → 0 ≤ dgt (r g) ∧ dgt (r g) ≤ 9) (hN : N ≤ 7) (v : Int) (g : Nat) : ∀ n : Nat, g < n → n ≤ N → ∃ A B : Int, 10000000 * v + digR r n = (10 * A + dgt (r g)) * p10 g + B ∧ 0 ≤ B ∧ B + p11 n ≤ p10 g
  | 0, q, _ => absurd q (by omega)
  | n + 1, q, hn => by
    have qq := p11_m (n := n) (by omega)
    have p := p10_in n
    rw [p11_s]
    by_cases e : g = n
    · subst e
      obtain ⟨A, hA⟩ := dig_A (r := r) v g (by omega)
      refine ⟨A, 0, ?_, Int.le_refl _, by omega⟩
      show 10000000 * v + (digR r g + dgt (r g) * p10 g) = _
      rw [qq] at hA
      rw [Int.add_mul, ← Int.add_assoc, hA, Int.add_zero]
      congr 1
      rw [← Int.mul_assoc, Int.mul_comm A 10]
    · obtain ⟨A, B, h1, h2, h3⟩ := dig_B h hN v g n (by omega) (by omega)
      obtain ⟨d1, d2⟩ := h n (by omega)
      have m := Int.mul_le_mul_of_nonneg_right d2 (show 0 ≤ p10 n by omega)
      have m0 := Int.mul_nonneg d1 (show 0 ≤ p10 n by omega)
      refine ⟨A, B + dgt (r n) * p10 n, ?_, by omega, by omega⟩
      show 10000000 * v + (digR r n + dgt (r n) * p10 n) = _
      omega
theorem dig_dec {r : Int → Int} {N : Nat} (h : ∀ g : Nat, g < N → 0 ≤ dgt (r g) ∧ dgt (r g) ≤ 9) (hN : N ≤ 7) (v : Int) {g : Nat} (hg : g < N) : (10000000 * v + digR r N) / p10 g % 10 = dgt (r g) := by
  obtain ⟨A, B, h1, h2, h3⟩ := dig_B h hN v g N hg (Nat.le_refl _)
  obtain ⟨d1, d2⟩ := h g hg
  have p : 1 ≤ p11 N := by
    have := p10_in (N - 1)
    rw [← p11_s, show N - 1 + 1 = N by omega] at this
    omega
  rw [h1]
  clear h1
  rcases (by omega : g = 0 ∨ g = 1 ∨ g = 2 ∨ g = 3 ∨ g = 4 ∨ g = 5 ∨ g = 6) with rfl | rfl | rfl | rfl | rfl | rfl | rfl
  · rw [show p10 0 = 1000000 by decide] at *; omega
  · rw [show p10 1 = 100000 by decide] at *; omega
  · rw [show p10 2 = 10000 by decide] at *; omega
  · rw [show p10 3 = 1000 by decide] at *; omega
  · rw [show p10 4 = 100 by decide] at *; omega
  · rw [show p10 5 = 10 by decide] at *; omega
  · rw [show p10 6 = 1 by decide] at *; omega
theorem cntR_u1 {r : Int → Int} {g : Nat} {v e : Int} : ∀ n : Nat, cntR (u1 r g v) e n = cntR r e n + if g < n then (if v = e then 1 else 0) - (if r g = e then 1 else 0) else 0
  | 0 => rfl
  | n + 1 => by
    show cntR (u1 r g v) e n + (if u1 r g v n = e then 1 else 0) = cntR r e n + (if r n = e then 1 else 0) + _
    rw [cntR_u1 n]
    by_cases h : n = g
    · subst h
      rw [u1_eq, if_neg (show ¬ n < n by omega), if_pos (show n < n + 1 by omega)]
      omega
    · rw [u1_ne (show (n : Int) ≠ (g : Int) by omega)]
      by_cases c : g < n
      · rw [if_pos c, if_pos (show g < n + 1 by omega)]
        omega
      · rw [if_neg c, if_neg (show ¬ g < n + 1 by omega)]
        omega
theorem codeR_u1 {T : TT} {wt r : Int → Int} {g : Nat} {v : Int} : ∀ n : Nat, codeR T wt (u1 r g v) n = codeR T wt r n + if g < n then trm T wt g v - trm T wt g (r g) else 0
  | 0 => rfl
  | n + 1 => by
    rw [codeR_s, codeR_s, codeR_u1 n]
    by_cases h : n = g
    · subst h
      rw [u1_eq, if_neg (show ¬ n < n by omega), if_pos (show n < n + 1 by omega)]
      omega
    · rw [u1_ne (show (n : Int) ≠ (g : Int) by omega)]
      by_cases c : g < n
      · rw [if_pos c, if_pos (show g < n + 1 by omega)]
        omega
      · rw [if_neg c, if_neg (show ¬ g < n + 1 by omega)]
        omega
theorem cntR_ex {r : Int → Int} {e : Int} : ∀ n : Nat, 0 < cntR r e n → ∃ g : Nat, g < n ∧ r g = e
  | 0, h => absurd h (Int.lt_irrefl 0)
  | n + 1, h => by
    by_cases c : r n = e
    · exact ⟨n, by omega, c⟩
    · have h2 : 0 < cntR r e n + (if r n = e then 1 else 0) := h
      rw [if_neg c] at h2
      obtain ⟨g, g1, g2⟩ := cntR_ex (r := r) (e := e) n (by omega)
      exact ⟨g, by omega, g2⟩
theorem cntR_le {r : Int → Int} {e : Int} : ∀ n : Nat, 0 ≤ cntR r e n ∧ cntR r e n ≤ n
  | 0 => ⟨Int.le_refl _, Int.le_refl _⟩
  | n + 1 => by
    have ih := cntR_le (r := r) (e := e) n
    show 0 ≤ cntR r e n + (if r n = e then 1 else 0) ∧ cntR r e n + (if r n = e then 1 else 0) ≤ ((n + 1 : Nat) : Int)
    split <;> omega
theorem cntR_congr {r r' : Int → Int} {e : Int} : ∀ n : Nat, (∀ j : Nat, j < n → r j = r' j) → cntR r e n = cntR r' e n
  | 0, _ => rfl
  | n + 1, h => by
    show cntR r e n + (if r n = e then 1 else 0) = cntR r' e n + (if r' n = e then 1 else 0)
    rw [cntR_congr n (fun j hj => h j (by omega)), h n (by omega)]
theorem codeR_congr {T : TT} {wt wt' r r' : Int → Int} : ∀ n : Nat, (∀ j : Nat, j < n → r j = r' j ∧ wt j = wt' j) → codeR T wt r n = codeR T wt' r' n
  | 0, _ => rfl
  | n + 1, h => by
    rw [codeR_s, codeR_s, codeR_congr n (fun j hj => h j (by omega)), (h n (by omega)).1]
    unfold trm
    rw [(h n (by omega)).2]
/-- a set, less one -/
def wout (S g : Nat) : Nat := if S.testBit g then S - 2 ^ g else S
theorem wout_tb : ∀ S : Fin 128, ∀ g : Fin 7, ∀ h : Fin 7, (wout S.val g.val).testBit h.val = (S.val.testBit h.val && !(h.val == g.val)) := by decide +kernel
theorem wout_tz : ∀ S : Fin 128, ∀ g : Fin 7, zAnd ((S.val : Nat) : Int) (zXor (zShl 1 ((g.val : Nat) : Int)) (-1)) = ((wout S.val g.val : Nat) : Int) := by decide +kernel
theorem wout_tl : ∀ S : Fin 128, ∀ g : Fin 7, S.val.testBit g.val = true → wout S.val g.val < S.val := by decide +kernel
theorem wout_bit {S g h : Nat} (hS : S < 128) (hg : g < 7) (hh : h < 7) : (wout S g).testBit h = (S.testBit h && !(h == g)) := wout_tb ⟨S, hS⟩ ⟨g, hg⟩ ⟨h, hh⟩
theorem wout_z {S g : Nat} (hS : S < 128) (hg : g < 7) : zAnd (S : Int) (zXor (zShl 1 (g : Int)) (-1)) = (wout S g : Int) := wout_tz ⟨S, hS⟩ ⟨g, hg⟩
theorem wout_lt {S g : Nat} (hS : S < 128) (hg : g < 7) (h : S.testBit g = true) : wout S g < S := wout_tl ⟨S, hS⟩ ⟨g, hg⟩ h
theorem wout_eq {S g : Nat} (h : S.testBit g = false) : wout S g = S := by
  unfold wout
  rw [h]
  rfl
theorem setOf_ex (b : Nat → Bool) : ∀ n : Nat, ∃ S : Nat, S < 2 ^ n ∧ ∀ g : Nat, g < n → S.testBit g = b g
  | 0 => ⟨0, by decide, fun g hg => absurd hg (by omega)⟩
  | n + 1 => by
    obtain ⟨S, h1, h2⟩ := setOf_ex b n
    cases hb : b n with
    | false =>
      refine ⟨S, by rw [Nat.pow_succ]; omega, fun g hg => ?_⟩
      by_cases e : g = n
      · subst e
        rw [hb]
        exact Nat.testBit_lt_two_pow h1
      · exact h2 g (by omega)
    | true =>
      refine ⟨2 ^ n + S, by rw [Nat.pow_succ]; omega, fun g hg => ?_⟩
      by_cases e : g = n
      · subst e
        rw [hb, Nat.testBit_two_pow_add_eq, Nat.testBit_lt_two_pow h1]
        rfl
      · rw [Nat.testBit_two_pow_add_gt (by omega)]
        exact h2 g (by omega)
/-- a row of those in a set, within what there is -/
def inS (T : TT) (cap : Int → Int) (S : Nat) (r : Int → Int) : Prop := (∀ g : Nat, (g : Int) < T.ng → (S.testBit g = true ∧ 0 ≤ r g ∧ r g < T.nd ∧ T.wo g (r g) ≠ -1) ∨ (S.testBit g = false ∧ r g = -9)) ∧ ∀ d, 0 ≤ d → d < T.nd → cntR r d T.ng.toNat ≤ cap d
def DPok (T : TT) (wt cap M : Int → Int) : Prop := ∀ S : Nat, S < 2 ^ T.ng.toNat → (∀ r, inS T cap S r → codeR T wt r T.ng.toNat ≤ M S) ∧ (M S = -1 ∨ ∃ r, inS T cap S r ∧ codeR T wt r T.ng.toNat = M S)
def gainF (T : TT) (wt : Int → Int) (d g : Int) : Int := if T.wo g d = -1 then -1 else 10000000 * (wt g * T.wo g d) + (9 - d) * p10 g.toNat
def serP (n : Nat) (G M M' : Int → Int) : Prop := ∀ S : Nat, S < 2 ^ n → M S ≤ M' S ∧ (∀ g : Nat, g < n → S.testBit g = true → 0 ≤ G g → 0 ≤ M (wout S g : Nat) → M (wout S g : Nat) + G g ≤ M' S) ∧ (M' S = M S ∨ ∃ g : Nat, g < n ∧ S.testBit g = true ∧ 0 ≤ G g ∧ 0 ≤ M (wout S g : Nat) ∧ M' S = M (wout S g : Nat) + G g)
def wtok (T : TT) (wt : Int → Int) : Prop := ∀ g : Nat, (g : Int) < T.ng → 10 ≤ wt g ∧ wt g ≤ 19
theorem mul_in {a b A B : Int} (ha : 0 ≤ a ∧ a ≤ A) (hb : 0 ≤ b ∧ b ≤ B) : 0 ≤ a * b ∧ a * b ≤ A * B :=
  ⟨Int.mul_nonneg ha.1 hb.1, Int.le_trans (Int.mul_le_mul_of_nonneg_right ha.2 hb.1) (Int.mul_le_mul_of_nonneg_left hb.2 (Int.le_trans ha.1 ha.2))⟩
theorem trm_in {T : TT} (hT : T.ok) {wt : Int → Int} (hw : wtok T wt) {g : Nat} {x : Int} (hg : (g : Int) < T.ng) (hx : x < 0 ∨ (0 ≤ x ∧ x < T.nd ∧ T.wo g x ≠ -1)) : 0 ≤ trm T wt g x ∧ trm T wt g x ≤ 1719000000 := by
  unfold trm
  split
  · omega
  · obtain ⟨x0, x1, x2⟩ : 0 ≤ x ∧ x < T.nd ∧ T.wo g x ≠ -1 := by
      rcases hx with q | q
      · omega
      · exact q
    have w := hw g hg
    have o := ((hT.2.2.2.2.2 g (by omega) hg).2.2.2.2.2.2 x x0 x1)
    have a := mul_in (A := 19) (B := 9) ⟨by omega, w.2⟩ (show 0 ≤ T.wo g x ∧ T.wo g x ≤ 9 by omega)
    have p := p10_in g
    have hnd := hT.2.2.2.1
    have b := mul_in (A := 9) (B := 1000000) (show 0 ≤ 9 - x ∧ 9 - x ≤ 9 by omega) (show 0 ≤ p10 g ∧ p10 g ≤ 1000000 by omega)
    omega
theorem codeR_in {T : TT} (hT : T.ok) {wt r : Int → Int} (hw : wtok T wt) (hr : ∀ g : Nat, (g : Int) < T.ng → r g < 0 ∨ (0 ≤ r g ∧ r g < T.nd ∧ T.wo g (r g) ≠ -1)) : ∀ n : Nat, (n : Int) ≤ T.ng → 0 ≤ codeR T wt r n ∧ codeR T wt r n ≤ 1719000000 * n
  | 0, _ => ⟨Int.le_refl _, Int.le_refl _⟩
  | n + 1, hn => by
    have ih := codeR_in hT hw hr n (by omega)
    have t := trm_in hT hw (show (n : Int) < T.ng by omega) (hr n (by omega))
    rw [codeR_s]
    omega
theorem inS.rg {T : TT} {cap r : Int → Int} {S : Nat} (h : inS T cap S r) : ∀ g : Nat, (g : Int) < T.ng → r g < 0 ∨ (0 ≤ r g ∧ r g < T.nd ∧ T.wo g (r g) ≠ -1) := fun g hg => by
  rcases h.1 g hg with q | q
  · exact Or.inr q.2
  · omega
theorem pow_ng {T : TT} (hT : T.ok) : 2 ^ T.ng.toNat ≤ 128 := by
  have := hT.2.1
  exact Nat.pow_le_pow_right (n := 2) (by decide) (show T.ng.toNat ≤ 7 by omega)
theorem DP_step {T : TT} (hT : T.ok) {wt cap cap' M M' : Int → Int} {d : Int} (hd : 0 ≤ d ∧ d < T.nd) (hw : wtok T wt) (h0 : 0 ≤ cap d) (h1 : cap' d = cap d + 1) (h2 : ∀ e, e ≠ d → cap' e = cap e) (h : DPok T wt cap M) (hM : serP T.ng.toNat (gainF T wt d) M M') : DPok T wt cap' M' := by
  intro S hS
  have hng := hT.2.1
  have h128 := pow_ng hT
  obtain ⟨m1, m2, m3⟩ := hM S hS
  have hG : ∀ g : Nat, T.wo g d ≠ -1 → gainF T wt d g = trm T wt g d := fun g q => by
    unfold gainF trm
    rw [if_neg q, if_neg (by omega), Int.toNat_natCast]
  have t9 : ∀ g : Nat, trm T wt g (-9) = 0 := fun g => rfl
  refine ⟨fun r hr => ?_, ?_⟩
  · by_cases c : cntR r d T.ng.toNat ≤ cap d
    · refine Int.le_trans ((h S hS).1 r ⟨hr.1, fun e e0 e1 => ?_⟩) m1
      by_cases q : e = d
      · subst q
        exact c
      · rw [← h2 e q]
        exact hr.2 e e0 e1
    · obtain ⟨g, g1, g2⟩ := cntR_ex T.ng.toNat (show 0 < cntR r d T.ng.toNat by omega)
      rcases hr.1 g (by omega) with ⟨b, q1, q2, q3⟩ | ⟨b, q⟩
      · rw [g2] at q3
        have lt := wout_lt (show S < 128 by omega) (show g < 7 by omega) b
        have hin : inS T cap (wout S g) (u1 r g (-9)) := by
          refine ⟨fun a ha => ?_, fun e e0 e1 => ?_⟩
          · rw [wout_bit (by omega) (by omega) (by omega)]
            by_cases q : a = g
            · subst q
              rw [u1_eq]
              exact Or.inr ⟨by simp, rfl⟩
            · rw [u1_ne (by omega), show (a == g) = false by simpa using q]
              simpa using hr.1 a ha
          · rw [cntR_u1, if_pos g1, g2, if_neg (by omega)]
            have k := hr.2 e e0 e1
            by_cases q : e = d
            · subst q
              rw [if_pos rfl]
              omega
            · rw [if_neg (fun z => q z.symm)]
              rw [h2 e q] at k
              omega
        have c1 := (h (wout S g) (by omega)).1 _ hin
        have e := codeR_u1 (T := T) (wt := wt) (r := r) (g := g) (v := -9) T.ng.toNat
        rw [if_pos g1, t9, g2, ← hG g q3] at e
        have nn := (codeR_in hT hw hin.rg T.ng.toNat (by omega)).1
        have gp := (trm_in hT hw (show (g : Int) < T.ng by omega) (Or.inr ⟨hd.1, hd.2, q3⟩)).1
        rw [← hG g q3] at gp
        have := m2 g g1 b gp (by omega)
        omega
      · omega
  · rcases m3 with m3 | ⟨g, g1, b, gp, wp, e⟩
    · rcases (h S hS).2 with q | ⟨r, r1, r2⟩
      · exact Or.inl (by omega)
      · refine Or.inr ⟨r, ⟨r1.1, fun e e0 e1 => ?_⟩, by omega⟩
        have k := r1.2 e e0 e1
        by_cases q : e = d
        · subst q
          omega
        · rw [h2 e q]
          exact k
    · have lt := wout_lt (show S < 128 by omega) (show g < 7 by omega) b
      rcases (h (wout S g) (by omega)).2 with q | ⟨r, r1, r2⟩
      · omega
      · have q3 : T.wo g d ≠ -1 := fun q => by
          unfold gainF at gp
          rw [if_pos q] at gp
          omega
        have rg : r g = -9 := by
          rcases r1.1 g (by omega) with ⟨z, -⟩ | ⟨-, z⟩
          · rw [wout_bit (by omega) (by omega) (by omega)] at z
            simp at z
          · exact z
        refine Or.inr ⟨u1 r g d, ⟨fun a ha => ?_, fun x x0 x1 => ?_⟩, ?_⟩
        · by_cases q : a = g
          · subst q
            rw [u1_eq]
            exact Or.inl ⟨b, hd.1, hd.2, q3⟩
          · have z := r1.1 a ha
            rw [wout_bit (by omega) (by omega) (by omega), show (a == g) = false by simpa using q] at z
            rw [u1_ne (by omega)]
            simpa using z
        · rw [cntR_u1, if_pos g1, rg, if_neg (show ¬ (-9 : Int) = x by omega)]
          have k := r1.2 x x0 x1
          by_cases q : x = d
          · subst q
            rw [if_pos rfl]
            omega
          · rw [if_neg (fun z => q z.symm), h2 x q]
            omega
        · rw [codeR_u1, if_pos g1, rg, t9, ← hG g q3, r2]
          omega
theorem DP_0 {T : TT} {wt M : Int → Int} (h0 : M 0 = 0) (h1 : ∀ S : Nat, 0 < S → S < 2 ^ T.ng.toNat → M S = -1) : DPok T wt (fun _ => 0) M := by
  have key : ∀ (r : Int → Int) (S : Nat), S < 2 ^ T.ng.toNat → inS T (fun _ => 0) S r → (∀ g : Nat, (g : Int) < T.ng → r g = -9 ∧ S.testBit g = false) := fun r S hS hr g hg => by
    rcases hr.1 g hg with ⟨b, q1, q2, q3⟩ | ⟨b, q⟩
    · have z : cntR r (r g) T.ng.toNat ≤ 0 := hr.2 (r g) q1 q2
      have e : cntR (u1 r g (-9)) (r g) T.ng.toNat = _ := cntR_u1 T.ng.toNat
      rw [if_pos (by omega), if_pos rfl, if_neg (by omega)] at e
      have := (cntR_le (r := u1 r g (-9)) (e := r g) T.ng.toNat).1
      omega
    · exact ⟨q, b⟩
  have cz : ∀ (r : Int → Int), ∀ n : Nat, (n : Int) ≤ T.ng → (∀ g : Nat, (g : Int) < T.ng → r g = -9) → codeR T wt r n = 0 := fun r n => by
    induction n with
    | zero => intro _ _; rfl
    | succ n ih =>
      intro hn hr
      rw [codeR_s, ih (by omega) hr, hr n (by omega)]
      rfl
  intro S hS
  refine ⟨fun r hr => ?_, ?_⟩
  · have k := key r S hS hr
    have e0 : S = 0 := by
      refine Nat.eq_of_testBit_eq fun i => ?_
      rw [Nat.zero_testBit]
      by_cases hi : i < T.ng.toNat
      · exact (k i (by omega)).2
      · exact Nat.testBit_lt_two_pow (Nat.lt_of_lt_of_le hS (Nat.pow_le_pow_right (by decide) (by omega)))
    subst e0
    by_cases hng : 0 ≤ T.ng
    · rw [cz r T.ng.toNat (by omega) (fun g hg => (k g hg).1)]
      exact Int.le_of_eq h0.symm
    · rw [show T.ng.toNat = 0 by omega]
      exact Int.le_of_eq h0.symm
  · by_cases e : S = 0
    · subst e
      refine Or.inr ⟨fun _ => -9, ⟨fun g _ => Or.inr ⟨Nat.zero_testBit g, rfl⟩, fun d d0 _ => ?_⟩, ?_⟩
      · by_cases q : cntR (fun _ => -9) d T.ng.toNat ≤ 0
        · exact q
        · obtain ⟨g, _, g2⟩ := cntR_ex T.ng.toNat (show 0 < cntR (fun _ => -9) d T.ng.toNat by omega)
          omega
      · by_cases hng : 0 ≤ T.ng
        · rw [cz _ T.ng.toNat (by omega) (fun g hg => rfl)]
          exact h0.symm
        · rw [show T.ng.toNat = 0 by omega]
          exact h0.symm
    · exact Or.inl (h1 S (by omega) hS)
theorem DP_end {T : TT} (hT : T.ok) {C : CC} {wt M : Int → Int} {z : Int} (hw : isWt T C wt) (h : DPok T wt (fun e => min (T.mn e) T.ng) M) (h1 : ∀ S : Nat, S < 2 ^ T.ng.toNat → M S ≤ z) (h2 : 0 ≤ z) (h3 : z = 0 ∨ ∃ S : Nat, S < 2 ^ T.ng.toNat ∧ z = M S) (hM0 : 0 ≤ M 0) : isBest T C z := by
  have hng := hT.1
  have key : ∀ r, rowOk T r → ∃ S : Nat, S < 2 ^ T.ng.toNat ∧ inS T (fun e => min (T.mn e) T.ng) S r := fun r hr => by
    obtain ⟨S, s1, s2⟩ := setOf_ex (fun g => decide (0 ≤ r g)) T.ng.toNat
    refine ⟨S, s1, fun g hg => ?_, fun d d0 d1 => ?_⟩
    · have b := s2 g (by omega)
      rcases hr.1 g (by omega) hg with q | q
      · exact Or.inr ⟨by rw [b, q]; rfl, q⟩
      · exact Or.inl ⟨by rw [b]; exact decide_eq_true q.1, q⟩
    · have a := hr.2 d d0 d1
      have b := (cntR_le (r := r) (e := d) T.ng.toNat).2
      show _ ≤ min (T.mn d) T.ng
      omega
  have back : ∀ r S, inS T (fun e => min (T.mn e) T.ng) S r → rowOk T r := fun r S hr => by
    refine ⟨fun g g0 g1 => ?_, fun d d0 d1 => ?_⟩
    · obtain ⟨k, rfl⟩ := Int.eq_ofNat_of_zero_le g0
      rcases hr.1 k g1 with q | q
      · exact Or.inr q.2
      · exact Or.inl q.2
    · have a : cntR r d T.ng.toNat ≤ min (T.mn d) T.ng := hr.2 d d0 d1
      omega
  have all : ∀ r, rowOk T r → codeR T wt r T.ng.toNat ≤ z := fun r hr => by
    obtain ⟨S, s1, s2⟩ := key r hr
    exact Int.le_trans ((h S s1).1 r s2) (h1 S s1)
  have p : 0 < 2 ^ T.ng.toNat := Nat.pow_pos (by decide)
  have att : ∃ S : Nat, S < 2 ^ T.ng.toNat ∧ z = M S := by
    rcases h3 with q | q
    · have := h1 0 p
      exact ⟨0, p, by rw [q] at this ⊢; exact Int.le_antisymm hM0 this⟩
    · exact q
  obtain ⟨S, s1, s2⟩ := att
  rcases (h S s1).2 with q | ⟨r, r1, r2⟩
  · omega
  · exact ⟨wt, hw, ⟨r, back r S r1, by rw [r2, s2]⟩, all⟩
theorem isWt.bd {T : TT} (hT : T.ok) {C : CC} (hC : C.now T) {wt : Int → Int} (h : isWt T C wt) : wtok T wt := fun g hg => by
  obtain ⟨s, s0, s1, s2⟩ := hC.all (Int.natCast_nonneg g) hg
  have e := h s s0 s1
  rw [s2] at e
  have o := od_in hC.1 s0 s1
  have k := (hT.2.2.2.2.2 _ o.1 o.2).2.2
  omega
theorem isBest.un {T : TT} {C : CC} (hC : C.now T) {z z' : Int} (h : isBest T C z) (h' : isBest T C z') : z = z' := by
  obtain ⟨wt, w1, ⟨r, r1, r2⟩, w3⟩ := h
  obtain ⟨wt', w1', ⟨r', r1', r2'⟩, w3'⟩ := h'
  have e : ∀ r : Int → Int, codeR T wt r T.ng.toNat = codeR T wt' r T.ng.toNat := fun r => codeR_congr _ (fun j hj => ⟨rfl, by
    obtain ⟨s, s0, s1, s2⟩ := hC.all (Int.natCast_nonneg j) (show (j : Int) < T.ng by omega)
    have a := w1 s s0 s1
    have b := w1' s s0 s1
    rw [s2] at a b
    omega⟩)
  have a := w3 r' r1'
  have b := w3' r r1
  rw [e] at a r2
  omega
