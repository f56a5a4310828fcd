/-! TABLE, its math: what a text tells; c: the cells, e: behind its last -/
abbrev dgOk (c : Int → Int) (e p lo hi : Int) : Prop := p < e ∧ 48 + lo ≤ c p ∧ c p ≤ 48 + hi
/-- the first of k that fails; k: none -/
def fstN (s : Nat → Bool) : Nat → Nat
  | 0 => 0
  | k + 1 => if fstN s k < k then fstN s k else if s k then k + 1 else k
theorem fstN_le (s : Nat → Bool) : ∀ k : Nat, fstN s k ≤ k
  | 0 => Nat.le_refl _
  | k + 1 => by
    have := fstN_le s k
    unfold fstN
    split
    · omega
    · split <;> omega
theorem fstN_go {s : Nat → Bool} {k : Nat} (h : fstN s k = k) (hs : s k = true) : fstN s (k + 1) = k + 1 := by
  unfold fstN
  rw [h, if_neg (by omega), if_pos hs]
theorem fstN_stop {s : Nat → Bool} {k : Nat} (h : fstN s k = k) (hs : s k = false) : ∀ j : Nat, fstN s (k + 1 + j) = k
  | 0 => by
    show fstN s (k + 1) = k
    unfold fstN
    rw [h, if_neg (by omega), hs]
    rfl
  | j + 1 => by
    have ih := fstN_stop h hs j
    show fstN s (k + 1 + j + 1) = k
    unfold fstN
    rw [ih, if_pos (by omega)]
theorem fstN_stop' {s : Nat → Bool} {k K : Nat} (h : fstN s k = k) (hs : s k = false) (hK : k < K) : fstN s K = k := by
  have := fstN_stop h hs (K - (k + 1))
  rw [show k + 1 + (K - (k + 1)) = K by omega] at this
  exact this
theorem fstN_all {s : Nat → Bool} : ∀ k : Nat, fstN s k = k → ∀ j : Nat, j < k → s j = true
  | 0, _, j, hj => absurd hj (by omega)
  | k + 1, h, j, hj => by
    have l := fstN_le s k
    unfold fstN at h
    split at h
    · omega
    · split at h
      · rename_i q
        by_cases e : j = k
        · subst e
          exact q
        · exact fstN_all k (by omega) j (by omega)
      · omega
def allX (c : Int → Int) (a : Int) : Nat → Bool
  | 0 => true
  | j + 1 => allX c a j && (c (a + (j : Int)) == 120)
def sgB (c : Int → Int) (e : Int) (M : Nat) (a : Int) (j : Nat) : Bool := decide (dgOk c e (a + j) 0 9 ∨ (a + j < e ∧ c (a + j) = 120 ∧ ¬ (j + 1 = M ∧ allX c a j = true)))
def dsB (c : Int → Int) (e p0 : Int) (j : Nat) : Bool := decide (p0 + j < e ∧ (if j % 2 = 0 then 49 else 48) ≤ c (p0 + j) ∧ c (p0 + j) ≤ 57)
def kdL (c : Int → Int) (p : Int) : Int := if c p = 107 then 0 else if c p = 99 then 1 else 2
abbrev ltOk (c : Int → Int) (e p : Int) : Prop := p < e ∧ (c p = 107 ∨ c p = 99 ∨ c p = 112)
def wOf (c : Int → Int) (p : Int) : Int := if c p = 112 then p + 3 else p + 2
def wv (c : Int → Int) (p : Int) : Int := if c p = 120 then -1 else c p - 48
def gB (c : Int → Int) (e : Int) (M : Nat) (p : Int) : Int × Int := if ¬ ltOk c e p then (0, p) else if ¬ dgOk c e (p + 1) 0 9 then (0, p + 1) else if c p = 112 ∧ ¬ dgOk c e (p + 2) 0 9 then (0, p + 2) else if fstN (sgB c e M (wOf c p)) M = M then (1, wOf c p + M) else (0, wOf c p + fstN (sgB c e M (wOf c p)) M)
def gF (c : Int → Int) (e : Int) (M : Nat) (a : Int) : Int × Int := if ¬ (a < e ∧ c a = 59) then (0, a) else gB c e M (a + 1)
def gp (c : Int → Int) (e : Int) (M : Nat) (b0 : Int) : Nat → Int
  | 0 => b0
  | k + 1 => (gF c e M (gp c e M b0 k)).2
def gEnd (c : Int → Int) (e : Int) (M : Nat) : Nat → Nat → Int → Int × Int × Nat
  | 0, k, a => (if 2 ≤ k ∧ a = e then 1 else 0, a, k)
  | f + 1, k, a => if e ≤ a then (if 2 ≤ k ∧ a = e then 1 else 0, a, k) else if (gF c e M a).1 = 0 then (0, (gF c e M a).2, k) else gEnd c e M f (k + 1) (gF c e M a).2
def mOf (c : Int → Int) (b : Int) : Nat := (c (b + 1) - 48).toNat
def rdR (c : Int → Int) (b e : Int) : Int × Int × Nat := if ¬ (b < e ∧ c b = 100) then (0, b, 0) else if ¬ dgOk c e (b + 1) 2 6 then (0, b + 1, 0) else if fstN (dsB c e (b + 2)) (2 * mOf c b) ≠ 2 * mOf c b then (0, b + 2 + fstN (dsB c e (b + 2)) (2 * mOf c b), 0) else gEnd c e (mOf c b) 7 0 (b + 2 + 2 * mOf c b)
def gpT (c : Int → Int) (b e : Int) (g : Int) : Int := gp c e (mOf c b) (b + 2 + 2 * mOf c b) g.toNat
def rdT (c : Int → Int) (b e : Int) : TT := (((rdR c b e).2.2 : Int), (mOf c b : Int), fun d => c (b + 2 + 2 * d) - 48, fun d => c (b + 3 + 2 * d) - 48, fun g => kdL c (gpT c b e g + 1), fun g => c (gpT c b e g + 2) - 48, fun g => if c (gpT c b e g + 1) = 112 then c (gpT c b e g + 3) - 48 else 0, fun g d => wv c (wOf c (gpT c b e g + 1) + d))
theorem gB_01 (c : Int → Int) (e : Int) (M : Nat) (p : Int) : (gB c e M p).1 = 0 ∨ (gB c e M p).1 = 1 := by
  unfold gB
  repeat' (first | exact Or.inl rfl | exact Or.inr rfl | split)
theorem gF_01 (c : Int → Int) (e : Int) (M : Nat) (a : Int) : (gF c e M a).1 = 0 ∨ (gF c e M a).1 = 1 := by
  unfold gF
  split
  · exact Or.inl rfl
  · exact gB_01 c e M _
/-- a guest that is told in full -/
theorem gF_ok {c : Int → Int} {e : Int} {M : Nat} {a : Int} (h : (gF c e M a).1 = 1) : (a < e ∧ c a = 59) ∧ ltOk c e (a + 1) ∧ dgOk c e (a + 2) 0 9 ∧ (c (a + 1) = 112 → dgOk c e (a + 3) 0 9) ∧ fstN (sgB c e M (wOf c (a + 1))) M = M ∧ (gF c e M a).2 = wOf c (a + 1) + M := by
  unfold gF at h ⊢
  by_cases h0 : a < e ∧ c a = 59
  · rw [if_neg (by omega)] at h ⊢
    unfold gB at h ⊢
    by_cases h1 : ltOk c e (a + 1)
    · rw [if_neg (fun q => q h1)] at h ⊢
      by_cases h2 : dgOk c e (a + 1 + 1) 0 9
      · rw [if_neg (fun q => q h2)] at h ⊢
        by_cases h3 : c (a + 1) = 112 ∧ ¬ dgOk c e (a + 1 + 2) 0 9
        · rw [if_pos h3] at h
          cases h
        · rw [if_neg h3] at h ⊢
          by_cases h4 : fstN (sgB c e M (wOf c (a + 1))) M = M
          · rw [if_pos h4] at h ⊢
            rw [show a + 1 + 1 = a + 2 by omega] at h2
            rw [show a + 1 + 2 = a + 3 by omega] at h3
            refine ⟨h0, h1, h2, fun q => ?_, h4, rfl⟩
            by_cases z : dgOk c e (a + 3) 0 9
            · exact z
            · exact absurd ⟨q, z⟩ h3
          · rw [if_neg h4] at h
            cases h
      · rw [if_pos h2] at h
        cases h
    · rw [if_pos h1] at h
      cases h
  · rw [if_pos h0] at h
    cases h
theorem gEnd_ok {c : Int → Int} {e b0 : Int} {M : Nat} : ∀ (f k : Nat), (gEnd c e M f k (gp c e M b0 k)).1 = 1 → 2 ≤ (gEnd c e M f k (gp c e M b0 k)).2.2 ∧ (gEnd c e M f k (gp c e M b0 k)).2.2 ≤ k + f ∧ ∀ g : Nat, k ≤ g → g < (gEnd c e M f k (gp c e M b0 k)).2.2 → (gF c e M (gp c e M b0 g)).1 = 1
  | 0, k, h => by
    have h' : (if 2 ≤ k ∧ gp c e M b0 k = e then (1 : Int) else 0) = 1 := h
    split at h'
    · rename_i q
      exact ⟨q.1, Nat.le_refl _, fun g g0 g1 => by have g1' : g < k := g1; omega⟩
    · cases h'
  | f + 1, k, h => by
    unfold gEnd at h ⊢
    by_cases q : e ≤ gp c e M b0 k
    · rw [if_pos q] at h ⊢
      have h' : (if 2 ≤ k ∧ gp c e M b0 k = e then (1 : Int) else 0) = 1 := h
      split at h'
      · rename_i z
        exact ⟨z.1, by show k ≤ k + (f + 1); omega, fun g g0 g1 => by have g1' : g < k := g1; omega⟩
      · cases h'
    · rw [if_neg q] at h ⊢
      by_cases z : (gF c e M (gp c e M b0 k)).1 = 0
      · rw [if_pos z] at h
        cases h
      · rw [if_neg z] at h ⊢
        have ih := gEnd_ok (b0 := b0) f (k + 1) h
        refine ⟨ih.1, by have := ih.2.1; show _ ≤ k + (f + 1); exact Nat.le_trans this (by omega), fun g g0 g1 => ?_⟩
        by_cases w : g = k
        · subst w
          rcases gF_01 c e M (gp c e M b0 g) with y | y
          · exact absurd y z
          · exact y
        · exact ih.2.2 g (by omega) g1
theorem rdR_ok {c : Int → Int} {b e : Int} (h : (rdR c b e).1 = 1) : (b < e ∧ c b = 100) ∧ dgOk c e (b + 1) 2 6 ∧ fstN (dsB c e (b + 2)) (2 * mOf c b) = 2 * mOf c b ∧ rdR c b e = gEnd c e (mOf c b) 7 0 (b + 2 + 2 * mOf c b) := by
  unfold rdR at h ⊢
  by_cases h0 : b < e ∧ c b = 100
  · rw [if_neg (by omega)] at h ⊢
    by_cases h1 : dgOk c e (b + 1) 2 6
    · rw [if_neg (fun q => q h1)] at h ⊢
      by_cases h2 : fstN (dsB c e (b + 2)) (2 * mOf c b) = 2 * mOf c b
      · rw [if_neg (fun q => q h2)] at h ⊢
        exact ⟨h0, h1, h2, rfl⟩
      · rw [if_pos h2] at h
        cases h
    · rw [if_pos h1] at h
      cases h
  · rw [if_pos h0] at h
    cases h
theorem rdT_ok {c : Int → Int} {b e : Int} (h : (rdR c b e).1 = 1) : (rdT c b e).ok := by
  obtain ⟨h0, h1, h2, h3⟩ := rdR_ok h
  rw [h3] at h
  have g := gEnd_ok (b0 := b + 2 + 2 * mOf c b) 7 0 h
  have hm : (mOf c b : Int) = c (b + 1) - 48 := by unfold mOf; omega
  have ha := fstN_all _ h2
  have ds : ∀ j : Nat, j < 2 * mOf c b → b + 2 + j < e ∧ (if j % 2 = 0 then (49 : Int) else 48) ≤ c (b + 2 + j) ∧ c (b + 2 + j) ≤ 57 := fun j hj => of_decide_eq_true (ha j hj)
  have eng : (rdT c b e).ng = (((gEnd c e (mOf c b) 7 0 (b + 2 + 2 * mOf c b)).2.2 : Nat) : Int) := by
    show (((rdR c b e).2.2 : Nat) : Int) = _
    rw [h3]
  refine ⟨?_, ?_, ?_, ?_, fun d d0 d1 => ?_, fun a a0 a1 => ?_⟩
  · rw [eng]
    have := g.1
    show (2 : Int) ≤ (((gEnd c e (mOf c b) 7 0 (gp c e (mOf c b) (b + 2 + 2 * mOf c b) 0)).2.2 : Nat) : Int)
    omega
  · rw [eng]
    have := g.2.1
    show (((gEnd c e (mOf c b) 7 0 (gp c e (mOf c b) (b + 2 + 2 * mOf c b) 0)).2.2 : Nat) : Int) ≤ 7
    omega
  · show (2 : Int) ≤ (mOf c b : Int)
    omega
  · show (mOf c b : Int) ≤ 6
    omega
  · have d1' : d < (mOf c b : Int) := d1
    obtain ⟨k, rfl⟩ := Int.eq_ofNat_of_zero_le d0
    have x := ds (2 * k) (by omega)
    have y := ds (2 * k + 1) (by omega)
    rw [if_pos (by omega)] at x
    rw [if_neg (by omega)] at y
    rw [show b + 2 + ((2 * k : Nat) : Int) = b + 2 + 2 * (k : Int) by omega] at x
    rw [show b + 2 + ((2 * k + 1 : Nat) : Int) = b + 3 + 2 * (k : Int) by omega] at y
    show 1 ≤ c (b + 2 + 2 * (k : Int)) - 48 ∧ c (b + 2 + 2 * (k : Int)) - 48 ≤ 9 ∧ 0 ≤ c (b + 3 + 2 * (k : Int)) - 48 ∧ c (b + 3 + 2 * (k : Int)) - 48 ≤ 9
    omega
  · rw [eng] at a1
    obtain ⟨k, rfl⟩ := Int.eq_ofNat_of_zero_le a0
    obtain ⟨z1, z2, z3, z4, z5, z6⟩ := gF_ok (g.2.2 k (Nat.zero_le _) (by
      show k < (gEnd c e (mOf c b) 7 0 (b + 2 + 2 * mOf c b)).2.2
      omega))
    have ep : gpT c b e (k : Int) = gp c e (mOf c b) (b + 2 + 2 * mOf c b) k := by
      unfold gpT
      rw [Int.toNat_natCast]
    refine ⟨?_, ?_, ?_, ?_, ?_, ?_, fun d d0 d1 => ?_⟩
    · show 0 ≤ kdL c (gpT c b e (k : Int) + 1)
      unfold kdL
      split
      · omega
      · split <;> omega
    · show kdL c (gpT c b e (k : Int) + 1) ≤ 2
      unfold kdL
      split
      · omega
      · split <;> omega
    · show 0 ≤ c (gpT c b e (k : Int) + 2) - 48
      rw [ep]
      omega
    · show c (gpT c b e (k : Int) + 2) - 48 ≤ 9
      rw [ep]
      omega
    · show 0 ≤ if c (gpT c b e (k : Int) + 1) = 112 then c (gpT c b e (k : Int) + 3) - 48 else 0
      rw [ep]
      split
      · rename_i q
        have := z4 q
        omega
      · omega
    · show (if c (gpT c b e (k : Int) + 1) = 112 then c (gpT c b e (k : Int) + 3) - 48 else 0) ≤ 9
      rw [ep]
      split
      · rename_i q
        have := z4 q
        omega
      · omega
    · have d1' : d < (mOf c b : Int) := d1
      obtain ⟨j, rfl⟩ := Int.eq_ofNat_of_zero_le d0
      have y : dgOk c e (wOf c (gp c e (mOf c b) (b + 2 + 2 * mOf c b) k + 1) + j) 0 9 ∨ (wOf c (gp c e (mOf c b) (b + 2 + 2 * mOf c b) k + 1) + j < e ∧ c (wOf c (gp c e (mOf c b) (b + 2 + 2 * mOf c b) k + 1) + j) = 120 ∧ ¬ (j + 1 = mOf c b ∧ allX c (wOf c (gp c e (mOf c b) (b + 2 + 2 * mOf c b) k + 1)) j = true)) := of_decide_eq_true (fstN_all _ z5 j (by omega))
      show -1 ≤ wv c (wOf c (gpT c b e (k : Int) + 1) + (j : Int)) ∧ wv c (wOf c (gpT c b e (k : Int) + 1) + (j : Int)) ≤ 9
      rw [ep]
      unfold wv
      split
      · omega
      · rcases y with y | y
        · omega
        · exact absurd y.2.1 (by assumption)
/-- how a table begins -/
def rdC (T : TT) : CC := (T.wo, T.kd, fun s => s, T.ng, 1, 1, -1)
theorem rdC_ok {T : TT} (h : T.ok) : (rdC T).now T := by
  have a := h.1
  have b := h.2.1
  refine ⟨⟨?_, Int.le_refl _, Int.le_refl 1, ?_, Int.le_refl 1, ?_, Int.le_refl (-1), ?_, fun s s0 s1 => ⟨s0, s1⟩, fun s s' _ _ _ _ q => q, fun g g0 g1 => ?_⟩, rfl, fun _ => rfl, rfl, fun g g0 g1 => ⟨g, g0, g1, rfl⟩⟩
  · show 1 ≤ T.ng
    omega
  · show (1 : Int) < T.ng
    omega
  · show (1 : Int) ≤ 8
    decide
  · show (-1 : Int) < 7
    decide
  · have x := h.2.2.2.2.2 g g0 g1
    exact ⟨x.1, x.2.1, fun d d0 d1 => ⟨(x.2.2.2.2.2.2 d d0 d1).1, (x.2.2.2.2.2.2 d d0 d1).2, Iff.rfl⟩⟩
theorem rdLA {T : TT} (h : T.ok) : LA2 T (fun _ => -8) := fun g g0 g1 => by
  have := h.2.2.1
  show -9 ≤ (-8 : Int) ∧ (-8 : Int) < T.nd ∧ ((-8 : Int) < 0 → (-8 : Int) ≤ -8)
  omega
def r_table (V : VV) (k so i z : Int) : Int := if refR V k so i z ≠ 0 then refR V k so i z else if (rdR (V.ce k) i (i + z)).1 = 1 then (((rdR (V.ce k) i (i + z)).2.2 : Nat) : Int) else -100 - ((rdR (V.ce k) i (i + z)).2.1 - i)
def takT (V : VV) (T : TT) : VV := (((V.setT T).setC (rdC T)).setLa (fun _ => -8)).setNi 0
def s_table (V : VV) (k so i z : Int) : VV := if refR V k so i z ≠ 0 then V.setFa (refF V k so i z) else if (rdR (V.ce k) i (i + z)).1 = 1 then takT (V.setFa 0) (rdT (V.ce k) i (i + z)) else V.setFa 0

