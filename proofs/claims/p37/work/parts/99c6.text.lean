/-! THE LAW's text: what it writes is read as it was told -/
def lett (k : Int) : Int := if k = 0 then 107 else if k = 1 then 99 else 112
def x2 (k : Int) : Int := if k = 2 then 1 else 0
def pos (kd : Int → Int) (nd : Int) : Nat → Int
  | 0 => 2 + 2 * nd
  | g + 1 => pos kd nd g + 3 + x2 (kd g) + nd
theorem x2_in (k : Int) : (x2 k = 0 ∧ k ≠ 2) ∨ (x2 k = 1 ∧ k = 2) := by
  unfold x2
  split
  · exact Or.inr ⟨rfl, by assumption⟩
  · exact Or.inl ⟨rfl, by assumption⟩
theorem lett_in (k : Int) (h : 0 ≤ k ∧ k ≤ 2) : (lett k = 107 ∧ k = 0) ∨ (lett k = 99 ∧ k = 1) ∨ (lett k = 112 ∧ k = 2) := by
  unfold lett
  by_cases h0 : k = 0
  · rw [if_pos h0]
    exact Or.inl ⟨rfl, h0⟩
  · rw [if_neg h0]
    by_cases h1 : k = 1
    · rw [if_pos h1]
      exact Or.inr (Or.inl ⟨rfl, h1⟩)
    · rw [if_neg h1]
      exact Or.inr (Or.inr ⟨rfl, by omega⟩)
theorem pos_cg {kd kd' : Int → Int} {nd : Int} : ∀ g : Nat, (∀ i : Int, 0 ≤ i → i < g → kd i = kd' i) → pos kd nd g = pos kd' nd g
  | 0, _ => rfl
  | g + 1, h => by
    show pos kd nd g + 3 + x2 (kd g) + nd = pos kd' nd g + 3 + x2 (kd' g) + nd
    rw [pos_cg g (fun i i0 i1 => h i i0 (by omega)), h g (by omega) (by omega)]
theorem pos_in {kd : Int → Int} {nd : Int} (hn : 2 ≤ nd ∧ nd ≤ 6) : ∀ g : Nat, 2 + 2 * nd + 5 * g ≤ pos kd nd g ∧ pos kd nd g ≤ 14 + 10 * g
  | 0 => by
    show 2 + 2 * nd + 5 * ((0 : Nat) : Int) ≤ 2 + 2 * nd ∧ 2 + 2 * nd ≤ 14 + 10 * ((0 : Nat) : Int)
    omega
  | g + 1 => by
    have ih := pos_in (kd := kd) hn g
    have := x2_in (kd g)
    show _ ≤ pos kd nd g + 3 + x2 (kd g) + nd ∧ pos kd nd g + 3 + x2 (kd g) + nd ≤ _
    omega
theorem pos_mono {kd : Int → Int} {nd : Int} (hn : 2 ≤ nd ∧ nd ≤ 6) (g : Nat) : ∀ m : Nat, pos kd nd g ≤ pos kd nd (g + m)
  | 0 => Int.le_refl _
  | m + 1 => by
    have ih := pos_mono (kd := kd) hn g m
    have := x2_in (kd (g + m : Nat))
    show pos kd nd g ≤ pos kd nd (g + m) + 3 + x2 (kd (g + m : Nat)) + nd
    omega
theorem fstN_full {s : Nat → Bool} : ∀ k : Nat, (∀ j, j < k → s j = true) → fstN s k = k
  | 0, _ => rfl
  | k + 1, h => fstN_go (fstN_full k (fun j hj => h j (by omega))) (h k (by omega))
theorem allX_all {c : Int → Int} {a : Int} : ∀ j : Nat, allX c a j = true → ∀ i : Nat, i < j → c (a + i) = 120
  | 0, _, i, hi => absurd hi (by omega)
  | j + 1, h, i, hi => by
    unfold allX at h
    rw [Bool.and_eq_true, beq_iff_eq] at h
    by_cases e : i = j
    · rw [e]
      exact h.2
    · exact allX_all j h.1 i (by omega)
/-- a guest's text, D dishes of it, at p; his numbers stand in the law's arrays -/
def GTd (I : qI) (x : Nat) (c : Int → Int) (g p D : Int) : Prop := (0 ≤ I (x + 167) (16 + g) ∧ I (x + 167) (16 + g) ≤ 2) ∧ (0 ≤ I (x + 167) (23 + g) ∧ I (x + 167) (23 + g) ≤ 9) ∧ (0 ≤ I (x + 167) (30 + g) ∧ I (x + 167) (30 + g) ≤ 9) ∧ (I (x + 167) (16 + g) ≠ 2 → I (x + 167) (30 + g) = 0) ∧ I (x + 167) (37 + g) = g ∧ I (x + 167) (44 + g) = -8 ∧
  c p = 59 ∧ c (p + 1) = lett (I (x + 167) (16 + g)) ∧ c (p + 2) = 48 + I (x + 167) (23 + g) ∧ (I (x + 167) (16 + g) = 2 → c (p + 3) = 48 + I (x + 167) (30 + g)) ∧
  ∀ d, 0 ≤ d → d < D → (-1 ≤ I (x + 168) (6 * g + d) ∧ I (x + 168) (6 * g + d) ≤ 9) ∧ I (x + 169) (6 * g + d) = I (x + 168) (6 * g + d) ∧ c (p + 3 + x2 (I (x + 167) (16 + g)) + d) = if I (x + 168) (6 * g + d) < 0 then 120 else 48 + I (x + 168) (6 * g + d)
theorem GTd.st {I I2 : qI} {x : Nat} {c c2 : Int → Int} {g p D : Int} (h : GTd I x c g p D) (hD : 0 ≤ D) (hT : ∀ i, i = 16 + g ∨ i = 23 + g ∨ i = 30 + g ∨ i = 37 + g ∨ i = 44 + g → I2 (x + 167) i = I (x + 167) i) (hW : ∀ d, 0 ≤ d → d < D → I2 (x + 168) (6 * g + d) = I (x + 168) (6 * g + d) ∧ I2 (x + 169) (6 * g + d) = I (x + 169) (6 * g + d)) (hc : ∀ i, p ≤ i → i < p + 3 + x2 (I (x + 167) (16 + g)) + D → c2 i = c i) : GTd I2 x c2 g p D := by
  obtain ⟨q1, q2, q3, q4, q5, q6, q7, q8, q9, q10, q11⟩ := h
  have t1 := hT (16 + g) (by omega)
  have t2 := hT (23 + g) (by omega)
  have t3 := hT (30 + g) (by omega)
  have t4 := hT (37 + g) (by omega)
  have t5 := hT (44 + g) (by omega)
  have := x2_in (I (x + 167) (16 + g))
  unfold GTd
  rw [t1, t2, t3, t4, t5]
  refine ⟨q1, q2, q3, q4, q5, q6, (hc _ (by omega) (by omega)).trans q7, (hc _ (by omega) (by omega)).trans q8, (hc _ (by omega) (by omega)).trans q9, fun z => (hc _ (by omega) (by omega)).trans (q10 z), fun d d0 d1 => ?_⟩
  rw [(hW d d0 d1).1, (hW d d0 d1).2, hc _ (by omega) (by omega)]
  exact q11 d d0 d1
theorem gF_txt {I : qI} {x M : Nat} {c : Int → Int} {e g p : Int} (h : GTd I x c g p M) (he : p + 3 + x2 (I (x + 167) (16 + g)) + M ≤ e) (hx : ∃ d : Int, 0 ≤ d ∧ d < M ∧ 0 ≤ I (x + 168) (6 * g + d)) : gF c e M p = (1, p + 3 + x2 (I (x + 167) (16 + g)) + M) := by
  obtain ⟨q1, q2, q3, q4, q5, q6, q7, q8, q9, q10, q11⟩ := h
  have hX := x2_in (I (x + 167) (16 + g))
  have hL := lett_in _ q1
  have w : wOf c (p + 1) = p + 3 + x2 (I (x + 167) (16 + g)) := by
    unfold wOf
    split <;> omega
  have hs : fstN (sgB c e M (wOf c (p + 1))) M = M := by
    rw [w]
    refine fstN_full M (fun j hj => decide_eq_true ?_)
    obtain ⟨u1, u2, u3⟩ := q11 j (by omega) (by omega)
    by_cases hv : I (x + 168) (6 * g + j) < 0
    · rw [if_pos hv] at u3
      refine Or.inr ⟨by omega, u3, fun z => ?_⟩
      obtain ⟨d, d0, d1, d2⟩ := hx
      have z2 := allX_all j z.2
      by_cases e1 : d = j
      · rw [e1] at d2
        omega
      · have z3 := z2 d.toNat (by omega)
        rw [show ((d.toNat : Nat) : Int) = d by omega] at z3
        obtain ⟨v1, v2, v3⟩ := q11 d d0 d1
        rw [if_neg (by omega)] at v3
        omega
    · rw [if_neg hv] at u3
      exact Or.inl ⟨by omega, by omega, by omega⟩
  have w2 : p + 1 + 1 = p + 2 := by omega
  have w3 : p + 1 + 2 = p + 3 := by omega
  unfold gF
  rw [if_neg (fun z => z ⟨by omega, q7⟩)]
  unfold gB
  rw [w2, w3, if_neg (fun z => z ⟨by omega, by omega⟩), if_neg (fun z => z ⟨by omega, by omega, by omega⟩), if_neg (fun z => z.2 ⟨by omega, by have := q10 (by omega); omega, by have := q10 (by omega); omega⟩), if_pos hs, w]
/-- all of the text -/
def DI (I : qI) (x : Nat) (c : Int → Int) (ng nd d : Int) : Prop := I (x + 167) 0 = ng ∧ I (x + 167) 1 = nd ∧ I (x + 167) 2 = 1 ∧ I (x + 167) 3 = 1 ∧ c 0 = 100 ∧ c 1 = 48 + nd ∧ ∀ i, 0 ≤ i → i < d → (1 ≤ I (x + 167) (4 + i) ∧ I (x + 167) (4 + i) ≤ 9) ∧ (0 ≤ I (x + 167) (10 + i) ∧ I (x + 167) (10 + i) ≤ 9) ∧ c (2 + 2 * i) = 48 + I (x + 167) (4 + i) ∧ c (3 + 2 * i) = 48 + I (x + 167) (10 + i)
theorem DI.st {I I2 : qI} {x : Nat} {c c2 : Int → Int} {ng nd d : Int} (h : DI I x c ng nd d) (hd : 0 ≤ d ∧ d ≤ 6) (hT : ∀ i, 0 ≤ i → i < 4 + d ∨ (10 ≤ i ∧ i < 10 + d) → I2 (x + 167) i = I (x + 167) i) (hc : ∀ i, 0 ≤ i → i < 2 + 2 * d → c2 i = c i) : DI I2 x c2 ng nd d := by
  obtain ⟨q1, q2, q3, q4, q5, q6, q7⟩ := h
  unfold DI
  rw [hT 0 (by omega) (by omega), hT 1 (by omega) (by omega), hT 2 (by omega) (by omega), hT 3 (by omega) (by omega), hc 0 (by omega) (by omega), hc 1 (by omega) (by omega)]
  refine ⟨q1, q2, q3, q4, q5, q6, fun i i0 i1 => ?_⟩
  rw [hT (4 + i) (by omega) (by omega), hT (10 + i) (by omega) (by omega), hc _ (by omega) (by omega), hc _ (by omega) (by omega)]
  exact q7 i i0 i1
def kdf (I : qI) (x : Nat) : Int → Int := fun g => I (x + 167) (16 + g)
def GI (I : qI) (x : Nat) (c : Int → Int) (nd : Int) (g : Nat) : Prop := ∀ i : Nat, i < g → GTd I x c i (pos (kdf I x) nd i) nd ∧ ∃ d : Int, 0 ≤ d ∧ d < nd ∧ 0 ≤ I (x + 168) (6 * i + d)
theorem GI.st {I I2 : qI} {x : Nat} {c c2 : Int → Int} {nd : Int} {g : Nat} (h : GI I x c nd g) (hn : 2 ≤ nd ∧ nd ≤ 6) (hg : g ≤ 7) (hT : ∀ k : Int, 0 ≤ k → k < g → ∀ i, i = 16 + k ∨ i = 23 + k ∨ i = 30 + k ∨ i = 37 + k ∨ i = 44 + k → I2 (x + 167) i = I (x + 167) i) (hW : ∀ i : Int, 0 ≤ i → i < 6 * g → I2 (x + 168) i = I (x + 168) i ∧ I2 (x + 169) i = I (x + 169) i) (hc : ∀ i, 0 ≤ i → i < pos (kdf I x) nd g → c2 i = c i) : GI I2 x c2 nd g := by
  intro i hi
  obtain ⟨h1, d, d0, d1, d2⟩ := h i hi
  have e : pos (kdf I2 x) nd i = pos (kdf I x) nd i := pos_cg i (fun k k0 k1 => hT k k0 (by omega) _ (Or.inl rfl))
  have p0 := pos_in (kd := kdf I x) hn i
  have p1 := pos_mono (kd := kdf I x) hn (i + 1) (g - (i + 1))
  rw [show i + 1 + (g - (i + 1)) = g by omega] at p1
  have p2 : pos (kdf I x) nd (i + 1) = pos (kdf I x) nd i + 3 + x2 (I (x + 167) (16 + i)) + nd := rfl
  rw [e]
  refine ⟨h1.st (by omega) (fun k hk => hT i (by omega) (by omega) k hk) (fun d' d0' d1' => hW (6 * (i : Int) + d') (by omega) (by omega)) (fun k k0 k1 => hc k (by omega) (by omega)), d, d0, d1, ?_⟩
  rw [(hW _ (by omega) (by omega)).1]
  exact d2
/-- it is read -/
theorem tx_read {I : qI} {x : Nat} {c : Int → Int} {ng nd : Int} (hg : 2 ≤ ng ∧ ng ≤ 7) (hn : 2 ≤ nd ∧ nd ≤ 6) (hD : DI I x c ng nd nd) (hG : GI I x c nd ng.toNat) :
    mOf c 0 = nd.toNat ∧ rdR c 0 (pos (kdf I x) nd ng.toNat) = (1, pos (kdf I x) nd ng.toNat, ng.toNat) ∧ ∀ g : Nat, g ≤ ng.toNat → gp c (pos (kdf I x) nd ng.toNat) nd.toNat (2 + 2 * nd) g = pos (kdf I x) nd g := by
  obtain ⟨q1, q2, q3, q4, q5, q6, q7⟩ := hD
  have pe := pos_in (kd := kdf I x) hn ng.toNat
  have hm : mOf c 0 = nd.toNat := by
    show (c (0 + 1) - 48).toNat = nd.toNat
    rw [Int.zero_add, q6]
    omega
  have step : ∀ g : Nat, g < ng.toNat → gF c (pos (kdf I x) nd ng.toNat) nd.toNat (pos (kdf I x) nd g) = (1, pos (kdf I x) nd (g + 1)) := by
    intro g hgl
    obtain ⟨h1, d, d0, d1, d2⟩ := hG g hgl
    have e1 : ((nd.toNat : Nat) : Int) = nd := by omega
    have p1 := pos_mono (kd := kdf I x) hn (g + 1) (ng.toNat - (g + 1))
    rw [show g + 1 + (ng.toNat - (g + 1)) = ng.toNat by omega] at p1
    have p2 : pos (kdf I x) nd (g + 1) = pos (kdf I x) nd g + 3 + x2 (I (x + 167) (16 + g)) + nd := rfl
    rw [p2] at p1
    have r := gF_txt (M := nd.toNat) (e := pos (kdf I x) nd ng.toNat) (by rw [e1]; exact h1) (by rw [e1]; exact p1) ⟨d, d0, by omega, d2⟩
    rw [e1] at r
    exact r
  have hgp : ∀ g : Nat, g ≤ ng.toNat → gp c (pos (kdf I x) nd ng.toNat) nd.toNat (2 + 2 * nd) g = pos (kdf I x) nd g := by
    intro g
    induction g with
    | zero => intro _; rfl
    | succ g ih =>
      intro hgl
      show (gF c (pos (kdf I x) nd ng.toNat) nd.toNat (gp c (pos (kdf I x) nd ng.toNat) nd.toNat (2 + 2 * nd) g)).2 = _
      rw [ih (by omega), step g (by omega)]
  have hend : ∀ f g : Nat, g + f = 7 → g ≤ ng.toNat → gEnd c (pos (kdf I x) nd ng.toNat) nd.toNat f g (pos (kdf I x) nd g) = (1, pos (kdf I x) nd ng.toNat, ng.toNat) := by
    intro f
    induction f with
    | zero =>
      intro g h1 h2
      have : g = ng.toNat := by omega
      subst this
      show ((if 2 ≤ ng.toNat ∧ _ then 1 else 0 : Int), _, _) = _
      rw [if_pos ⟨by omega, rfl⟩]
    | succ f ih =>
      intro g h1 h2
      by_cases e : g = ng.toNat
      · subst e
        unfold gEnd
        rw [if_pos (Int.le_refl _), if_pos ⟨by omega, rfl⟩]
      · have p1 := pos_mono (kd := kdf I x) hn (g + 1) (ng.toNat - (g + 1))
        rw [show g + 1 + (ng.toNat - (g + 1)) = ng.toNat by omega] at p1
        have p2 : pos (kdf I x) nd (g + 1) = pos (kdf I x) nd g + 3 + x2 (I (x + 167) (16 + g)) + nd := rfl
        have p3 := x2_in (I (x + 167) (16 + g))
        unfold gEnd
        rw [if_neg (by omega), step g (by omega), if_neg (show ¬ ((1 : Int) = 0) by decide)]
        exact ih (g + 1) (by omega) (by omega)
  refine ⟨hm, ?_, hgp⟩
  have hds : fstN (dsB c (pos (kdf I x) nd ng.toNat) (0 + 2)) (2 * mOf c 0) = 2 * mOf c 0 := by
    refine fstN_full _ (fun j hj => decide_eq_true ?_)
    rw [hm] at hj
    rw [Int.zero_add]
    have h7 := q7 ((j : Int) / 2) (by omega) (by omega)
    have hz : pos (kdf I x) nd ng.toNat > 2 + 2 * nd := by omega
    by_cases hj2 : j % 2 = 0
    · rw [if_pos hj2]
      have e : (2 : Int) + 2 * ((j : Int) / 2) = 2 + j := by omega
      rw [e] at h7
      omega
    · rw [if_neg hj2]
      have e : (3 : Int) + 2 * ((j : Int) / 2) = 2 + j := by omega
      rw [e] at h7
      omega
  rw [rdR_2 ⟨by omega, q5⟩ ⟨⟨by omega, by rw [Int.zero_add, q6]; omega, by rw [Int.zero_add, q6]; omega⟩, hds⟩, hm]
  have e9 : (0 : Int) + 2 + 2 * ((nd.toNat : Nat) : Int) = 2 + 2 * nd := by omega
  rw [e9]
  exact hend 7 0 rfl (Nat.zero_le _)
/-- what was told, and what is told by the law's arrays -/
theorem tx_ty {I : qI} {x : Nat} {c : Int → Int} {ng nd : Int} (hg : 2 ≤ ng ∧ ng ≤ 7) (hn : 2 ≤ nd ∧ nd ≤ 6) (hD : DI I x c ng nd nd) (hG : GI I x c nd ng.toNat) :
    (rdR c 0 (0 + pos (kdf I x) nd ng.toNat)).1 = 1 ∧ (((rdR c 0 (0 + pos (kdf I x) nd ng.toNat)).2.2 : Nat) : Int) = ng ∧ tyA I (x + 167) (x + 168) (x + 169) (rdT c 0 (0 + pos (kdf I x) nd ng.toNat)) (rdC (rdT c 0 (0 + pos (kdf I x) nd ng.toNat))) (fun _ => -8) := by
  obtain ⟨hm, hr, hp⟩ := tx_read hg hn hD hG
  obtain ⟨q1, q2, q3, q4, q5, q6, q7⟩ := hD
  rw [Int.zero_add]
  have e1 : ((nd.toNat : Nat) : Int) = nd := by omega
  have e2 : ((ng.toNat : Nat) : Int) = ng := by omega
  have hpT : ∀ g : Int, 0 ≤ g → g < ng → gpT c 0 (pos (kdf I x) nd ng.toNat) g = pos (kdf I x) nd g.toNat := fun g g0 g1 => by
    unfold gpT
    rw [hm, e1, show (0 : Int) + 2 + 2 * nd = 2 + 2 * nd by omega]
    exact hp g.toNat (by omega)
  have tng : (rdT c 0 (pos (kdf I x) nd ng.toNat)).ng = ng := by
    show (((rdR c 0 (pos (kdf I x) nd ng.toNat)).2.2 : Nat) : Int) = ng
    rw [hr]
    exact e2
  have tnd : (rdT c 0 (pos (kdf I x) nd ng.toNat)).nd = nd := by
    show ((mOf c 0 : Nat) : Int) = nd
    rw [hm]
    exact e1
  refine ⟨by rw [hr], by rw [hr]; exact e2, ?_⟩
  unfold tyA
  rw [tng, tnd]
  have key : ∀ g : Int, 0 ≤ g → g < ng → _ := fun g g0 g1 => hG g.toNat (by omega)
  refine ⟨q1, q2, q3, q4, fun d d0 d1 => ?_, fun g g0 g1 => ?_, fun g d g0 g1 d0 d1 => ?_⟩
  · obtain ⟨u1, u2, u3, u4⟩ := q7 d d0 d1
    refine ⟨?_, ?_⟩
    · show _ = c (0 + 2 + 2 * d) - 48
      rw [Int.zero_add]
      omega
    · show _ = c (0 + 3 + 2 * d) - 48
      rw [Int.zero_add]
      omega
  · have k := (key g g0 g1).1
    rw [show ((g.toNat : Nat) : Int) = g by omega] at k
    obtain ⟨k1, k2, k3, k4, k5, k6, k7, k8, k9, k10, k11⟩ := k
    have hL := lett_in _ k1
    have hgp := hpT g g0 g1
    refine ⟨?_, ?_, ?_, k5, k6⟩
    · show _ = kdL c (gpT c 0 (pos (kdf I x) nd ng.toNat) g + 1)
      rw [hgp]
      unfold kdL
      rw [k8]
      split
      · omega
      · split <;> omega
    · show _ = c (gpT c 0 (pos (kdf I x) nd ng.toNat) g + 2) - 48
      rw [hgp]
      omega
    · show _ = if c (gpT c 0 (pos (kdf I x) nd ng.toNat) g + 1) = 112 then c (gpT c 0 (pos (kdf I x) nd ng.toNat) g + 3) - 48 else 0
      rw [hgp]
      by_cases h2 : I (x + 167) (16 + g) = 2
      · rw [if_pos (by omega), k10 h2]
        omega
      · rw [if_neg (by omega)]
        exact k4 h2
  · have k := (key g g0 g1).1
    rw [show ((g.toNat : Nat) : Int) = g by omega] at k
    obtain ⟨k1, k2, k3, k4, k5, k6, k7, k8, k9, k10, k11⟩ := k
    have hL := lett_in _ k1
    have hX := x2_in (I (x + 167) (16 + g))
    have hgp := hpT g g0 g1
    obtain ⟨u1, u2, u3⟩ := k11 d d0 d1
    have w : wOf c (gpT c 0 (pos (kdf I x) nd ng.toNat) g + 1) = pos (kdf I x) nd g.toNat + 3 + x2 (I (x + 167) (16 + g)) := by
      rw [hgp]
      unfold wOf
      split <;> omega
    have hw : (rdT c 0 (pos (kdf I x) nd ng.toNat)).wo g d = I (x + 168) (6 * g + d) := by
      show wv c (wOf c (gpT c 0 (pos (kdf I x) nd ng.toNat) g + 1) + d) = _
      rw [w]
      unfold wv
      rw [u3]
      by_cases hv : I (x + 168) (6 * g + d) < 0
      · rw [if_pos hv, if_pos rfl]
        omega
      · rw [if_neg hv, if_neg (by omega)]
        omega
    exact ⟨hw.symm, u2.trans hw.symm⟩
