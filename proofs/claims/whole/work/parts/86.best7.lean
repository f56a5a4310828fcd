/-! BEST, the reference's search: how it stands -/
def stB (I0 I1 : qI) (m : Nat) (T : TT) (g G : Nat) (c sum : Int) : Prop := (∀ b i, ¬ (b = m ∧ i = 42) → b ≠ m + 25 → b ≠ m + 27 → b ≠ m + 28 → I1 b i = I0 b i) ∧ pvB T G (I1 (m + 27)) ∧ (∀ e, 0 ≤ e → e < T.nd → I1 (m + 25) e = T.mn e - cntR (rwT T (I1 (m + 27))) e G) ∧ sum = valR T (I0 (m + 26)) (rwT T (I1 (m + 27))) G ∧ bdB T (I0 (m + 26)) g c (I1 (m + 27)) (I1 m 42) (I1 (m + 28))
theorem stB.setT {I0 I1 : qI} {m : Nat} {T : TT} {g : Nat} {c sum : Int} (h : stB I0 I1 m T g g c sum) {a : Nat} (ha : g ≤ a) (v : Int) : stB I0 (up I1 (m + 27) a v) m T g g c sum := by
  obtain ⟨h1, h2, h3, h4, h5⟩ := h
  have e : ∀ j : Nat, j < g → I1 (m + 27) j = up I1 (m + 27) (a : Int) v (m + 27) j := fun j hj => (up_ni _ _ (by omega)).symm
  have er : ∀ j : Nat, j < g → rwT T (I1 (m + 27)) j = rwT T (up I1 (m + 27) (a : Int) v (m + 27)) j := fun j hj => by
    unfold rwT
    rw [← e j hj]
  refine ⟨fun b i q1 q2 q3 q4 => by rw [up_na _ _ _ _ q3]; exact h1 b i q1 q2 q3 q4, h2.cg e, fun x x0 x1 => ?_, ?_, ?_⟩
  · rw [up_na _ _ _ _ (by omega), h3 x x0 x1, cntR_congr g er]
  · rw [h4]
    exact valR_congr g er
  · rw [up_na _ _ _ _ (by omega), show up I1 (m + 27) (a : Int) v (m + 28) = I1 (m + 28) from funext fun i => up_na _ _ _ _ (by omega)]
    exact h5.cg e
theorem pvB.dn {T : TT} {g : Nat} {t : Int → Int} (h : pvB T (g + 1) t) : pvB T g t := by
  refine ⟨fun k hk => h.1 k (by omega), fun e e0 e1 => Int.le_trans ?_ (h.2 e e0 e1)⟩
  show cntR (rwT T t) e g ≤ cntR (rwT T t) e g + (if rwT T t g = e then 1 else 0)
  split <;> omega
theorem pvB.up {T : TT} {g : Nat} {t : Int → Int} {c : Int} (h : pvB T g t) (ht : t g = c) (hc : 0 ≤ c ∧ c ≤ T.nd) (ha : c = T.nd ∨ (0 < T.mn c - cntR (rwT T t) c g ∧ T.wo g c ≠ -1)) : pvB T (g + 1) t := by
  refine ⟨fun k hk => ?_, fun e e0 e1 => ?_⟩
  · by_cases z : k = g
    · subst z
      rw [ht]
      exact ⟨hc.1, hc.2, fun q => by rcases ha with y | y; exact absurd y q; exact y.2⟩
    · exact h.1 k (by omega)
  · show cntR (rwT T t) e g + (if rwT T t g = e then 1 else 0) ≤ T.mn e
    have := h.2 e e0 e1
    by_cases z : rwT T t g = e
    · rw [if_pos z]
      unfold rwT at z
      rw [ht] at z
      by_cases y : c = T.nd
      · rw [if_pos y] at z
        omega
      · rw [if_neg y] at z
        subst z
        rcases ha with w | w <;> omega
    · rw [if_neg z]
      omega
theorem valR_in {T : TT} (hT : T.ok) {wt t : Int → Int} (hw : wtok T wt) {G : Nat} (hp : pvB T G t) (hG : (G : Int) ≤ T.ng) : ∀ k : Nat, k ≤ G → 0 ≤ valR T wt (rwT T t) k ∧ valR T wt (rwT T t) k ≤ 171 * k
  | 0, _ => ⟨Int.le_refl _, Int.le_refl _⟩
  | k + 1, hk => by
    have ih := valR_in hT hw hp hG k (by omega)
    have x : valR T wt (rwT T t) (k + 1) = valR T wt (rwT T t) k + vtm T wt k (rwT T t k) := rfl
    have y : 0 ≤ vtm T wt k (rwT T t k) ∧ vtm T wt k (rwT T t k) ≤ 171 := by
      unfold vtm
      split
      · omega
      · rename_i q
        obtain ⟨a, b, c⟩ := hp.1 k (by omega)
        have w := hw k (by omega)
        by_cases z : t k = T.nd
        · have : rwT T t k = -9 := if_pos z
          omega
        · have e : rwT T t k = t k := if_neg z
          rw [e]
          have o := (hT.2.2.2.2.2 k (by omega) (by omega)).2.2.2.2.2.2 (t k) a (by omega)
          have c' := c z
          exact mul_in (A := 19) (B := 9) (by omega) (by omega)
    rw [x]
    omega
theorem bdB.bs {T : TT} (hT : T.ok) {wt : Int → Int} (hw : wtok T wt) {g : Nat} {c bs : Int} {t br : Int → Int} (h : bdB T wt g c t bs br) : -1 ≤ bs ∧ bs ≤ 12033 := by
  have hng := hT.2.1
  have hng0 := hT.1
  rcases h.2 with q | ⟨q0, q1, q2, q3⟩
  · omega
  · have a := codeR_in hT hw (r := br) (fun g hg => by
      rcases q1.1 g (by omega) hg with q | q
      · omega
      · exact Or.inr q) T.ng.toNat (by omega)
    have b := digR_bd (q1.dg hT) (by omega) T.ng.toNat (Nat.le_refl _)
    rw [codeR_split] at a
    omega
theorem stB.undo {I0 I1 : qI} {m : Nat} {T : TT} {g : Nat} {c sum x v : Int} (h : stB I0 I1 m T g (g + 1) c sum) (hx : I1 (m + 27) g = x) (hv : v = vtm T (I0 (m + 26)) g (if x = T.nd then -9 else x)) : stB I0 (if x < T.nd then up I1 (m + 25) x (I1 (m + 25) x - -1) else I1) m T g g c (sum - v) := by
  obtain ⟨h1, h2, h3, h4, h5⟩ := h
  have hr : rwT T (I1 (m + 27)) g = if x = T.nd then -9 else x := by
    unfold rwT
    rw [hx]
  have s : sum - v = valR T (I0 (m + 26)) (rwT T (I1 (m + 27))) g := by
    have z : valR T (I0 (m + 26)) (rwT T (I1 (m + 27))) (g + 1) = valR T (I0 (m + 26)) (rwT T (I1 (m + 27))) g + vtm T (I0 (m + 26)) g (rwT T (I1 (m + 27)) g) := rfl
    rw [hr] at z
    omega
  have k : ∀ e, cntR (rwT T (I1 (m + 27))) e (g + 1) = cntR (rwT T (I1 (m + 27))) e g + (if (if x = T.nd then -9 else x) = e then 1 else 0) := fun e => by
    show cntR (rwT T (I1 (m + 27))) e g + (if rwT T (I1 (m + 27)) g = e then 1 else 0) = _
    rw [hr]
  obtain ⟨b1, b2, b3⟩ := h2.1 g (by omega)
  rw [hx] at b1 b2 b3
  split
  · rename_i q
    have f7 : up I1 (m + 25) x (I1 (m + 25) x - -1) (m + 27) = I1 (m + 27) := funext fun i => up_na _ _ _ _ (by omega)
    have f8 : up I1 (m + 25) x (I1 (m + 25) x - -1) (m + 28) = I1 (m + 28) := funext fun i => up_na _ _ _ _ (by omega)
    refine ⟨fun b i q1 q2 q3 q4 => by rw [up_na _ _ _ _ q2]; exact h1 b i q1 q2 q3 q4, ?_, fun e e0 e1 => ?_, ?_, ?_⟩
    · rw [f7]
      exact h2.dn
    · rw [f7]
      have y := h3 e e0 e1
      rw [k, if_neg (show ¬ x = T.nd by omega)] at y
      by_cases z : e = x
      · subst z
        rw [if_pos rfl] at y
        rw [up_eq]
        omega
      · rw [if_neg (fun w => z w.symm)] at y
        rw [up_ni _ _ z]
        omega
    · rw [f7]
      exact s
    · rw [f7, f8, up_na _ _ _ _ (by omega)]
      exact h5
  · rename_i q
    refine ⟨h1, h2.dn, fun e e0 e1 => ?_, s, h5⟩
    have y := h3 e e0 e1
    rw [k, if_pos (show x = T.nd by omega), if_neg (show ¬ (-9 : Int) = e by omega)] at y
    omega
theorem stB.take {I0 I1 : qI} {m : Nat} {T : TT} {g : Nat} {c sum v : Int} (h : stB I0 I1 m T g g c sum) (hx : I1 (m + 27) g = c) (hc : 0 ≤ c ∧ c ≤ T.nd) (ha : c = T.nd ∨ (0 < I1 (m + 25) c ∧ T.wo g c ≠ -1)) (hv : v = vtm T (I0 (m + 26)) g (if c = T.nd then -9 else c)) : stB I0 (if c < T.nd then up I1 (m + 25) c (I1 (m + 25) c - 1) else I1) m T g (g + 1) c (sum + v) := by
  obtain ⟨h1, h2, h3, h4, h5⟩ := h
  have hr : rwT T (I1 (m + 27)) g = if c = T.nd then -9 else c := by
    unfold rwT
    rw [hx]
  have s : sum + v = valR T (I0 (m + 26)) (rwT T (I1 (m + 27))) (g + 1) := by
    show _ = valR T (I0 (m + 26)) (rwT T (I1 (m + 27))) g + vtm T (I0 (m + 26)) g (rwT T (I1 (m + 27)) g)
    rw [hr, h4, hv]
  have k : ∀ e, cntR (rwT T (I1 (m + 27))) e (g + 1) = cntR (rwT T (I1 (m + 27))) e g + (if (if c = T.nd then -9 else c) = e then 1 else 0) := fun e => by
    show cntR (rwT T (I1 (m + 27))) e g + (if rwT T (I1 (m + 27)) g = e then 1 else 0) = _
    rw [hr]
  have hp : pvB T (g + 1) (I1 (m + 27)) := h2.up hx hc (by
    rcases ha with q | q
    · exact Or.inl q
    · by_cases z : c = T.nd
      · exact Or.inl z
      · refine Or.inr ⟨?_, q.2⟩
        rw [← h3 c hc.1 (by omega)]
        exact q.1)
  split
  · rename_i q
    have f7 : up I1 (m + 25) c (I1 (m + 25) c - 1) (m + 27) = I1 (m + 27) := funext fun i => up_na _ _ _ _ (by omega)
    have f8 : up I1 (m + 25) c (I1 (m + 25) c - 1) (m + 28) = I1 (m + 28) := funext fun i => up_na _ _ _ _ (by omega)
    refine ⟨fun b i q1 q2 q3 q4 => by rw [up_na _ _ _ _ q2]; exact h1 b i q1 q2 q3 q4, ?_, fun e e0 e1 => ?_, ?_, ?_⟩
    · rw [f7]
      exact hp
    · rw [f7]
      have y := h3 e e0 e1
      rw [k, if_neg (show ¬ c = T.nd by omega)]
      by_cases z : e = c
      · subst z
        rw [if_pos rfl, up_eq]
        omega
      · rw [if_neg (fun w => z w.symm), up_ni _ _ z]
        omega
    · rw [f7]
      exact s
    · rw [f7, f8, up_na _ _ _ _ (by omega)]
      exact h5
  · rename_i q
    refine ⟨h1, hp, fun e e0 e1 => ?_, s, h5⟩
    have y := h3 e e0 e1
    rw [k, if_pos (show c = T.nd by omega), if_neg (show ¬ (-9 : Int) = e by omega)]
    omega
theorem muB_nn {T : TT} {t : Int → Int} : ∀ n : Nat, (∀ j : Nat, j < n → t j ≤ T.nd + 1) → 0 ≤ muB T t n
  | 0, _ => Int.le_refl _
  | n + 1, h => by
    have ih := muB_nn n (fun j hj => h j (by omega))
    have a := Int.mul_nonneg (show 0 ≤ T.nd + 1 - t n by have := h n (by omega); omega) (show 0 ≤ (16 : Int) ^ (7 - n) by have := q16 n; omega)
    show 0 ≤ muB T t n + (T.nd + 1 - t n) * 16 ^ (7 - n)
    omega
/-- what the reference's search leaves -/
def bsP (T : TT) (C : CC) (bs : Int) (br : Int → Int) : Prop := rowOk T br ∧ ∃ wt, isWt T C wt ∧ isBest T C (codeR T wt br T.ng.toNat) ∧ bs = valR T wt br T.ng.toNat
theorem bsP.ans {T : TT} (hT : T.ok) {C : CC} (hC : C.now T) {bs : Int} {br : Int → Int} (h : bsP T C bs br) : bs = zBest T C / 10000000 ∧ ∀ g : Int, 0 ≤ g → g < T.ng → br g = if zBest T C / p10 g.toNat % 10 = 0 then -9 else 9 - zBest T C / p10 g.toNat % 10 := by
  obtain ⟨h1, wt, h2, h3, h4⟩ := h
  have hng := hT.2.1
  have hng0 := hT.1
  have hnd := hT.2.2.2.1
  rw [h3.z hC, codeR_split]
  have b := digR_bd (h1.dg hT) (by omega) T.ng.toNat (Nat.le_refl _)
  have p : 0 < p11 T.ng.toNat := by
    unfold p11
    exact Int.pow_pos (by decide)
  refine ⟨by omega, fun g g0 g1 => ?_⟩
  obtain ⟨k, rfl⟩ := Int.eq_ofNat_of_zero_le g0
  rw [Int.toNat_natCast, dig_dec (h1.dg hT) (by omega) _ (show k < T.ng.toNat by omega)]
  unfold dgt
  rcases h1.1 k (by omega) g1 with q | q
  · rw [q]
    rfl
  · rw [if_neg (show ¬ br (k : Int) < 0 by omega), if_neg (by omega)]
    omega
