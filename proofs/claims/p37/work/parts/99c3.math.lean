/-! THE LAW, its mathematics: costs, sums in another order, seats, what a row that is right is -/
/-- the law's own arrays show a table: t, what each is worth, what each says -/
def tyA (I : qI) (t w u : Nat) (T : TT) (C : CC) (la : Int → Int) : Prop :=
  I t 0 = T.ng ∧ I t 1 = T.nd ∧ I t 2 = C.st ∧ I t 3 = C.co ∧ (∀ d, 0 ≤ d → d < T.nd → I t (4 + d) = T.mn d ∧ I t (10 + d) = T.pr d) ∧
  (∀ g, 0 ≤ g → g < T.ng → I t (16 + g) = T.kd g ∧ I t (23 + g) = T.kn g ∧ I t (30 + g) = T.ct g ∧ I t (37 + g) = C.od g ∧ I t (44 + g) = la g) ∧
  ∀ g d, 0 ≤ g → g < T.ng → 0 ≤ d → d < T.nd → I w (6 * g + d) = T.wo g d ∧ I u (6 * g + d) = C.sa g d
def itsL (T : TT) (C : CC) (how h d : Int) : Int := if how = 2 then 100 * C.sa h d + 10 * T.pr d else if how = 1 then 100 * T.pr d + 10 * (9 - C.sa h d) else 100 * (9 - C.sa h d) + 10 * T.pr d
theorem itsL_ahead {T : TT} {C : CC} {how h d o : Int} (hh : 0 ≤ how ∧ how ≤ 2) (hd : 0 ≤ C.sa h d ∧ C.sa h d ≤ 9) (ho : 0 ≤ C.sa h o ∧ C.sa h o ≤ 9) (pd : 0 ≤ T.pr d ∧ T.pr d ≤ 9) (po : 0 ≤ T.pr o ∧ T.pr o ≤ 9) (hdo : o < d ∧ d < o + 10) :
    itsL T C how h d + d < itsL T C how h o + o ↔ ahead T C how h d o := by
  unfold ahead itsL
  rcases (by omega : how = 0 ∨ how = 1 ∨ how = 2) with rfl | rfl | rfl <;> simp <;> omega
theorem itsL_in {T : TT} {C : CC} {how h d : Int} (hd : -1 ≤ C.sa h d ∧ C.sa h d ≤ 9) (pd : 0 ≤ T.pr d ∧ T.pr d ≤ 9) : -2000 ≤ itsL T C how h d ∧ itsL T C how h d ≤ 2000 := by
  unfold itsL
  split
  · omega
  · split <;> omega
theorem wishN_none {T : TT} {C : CC} {how h : Int} {le : Int → Int} : ∀ k : Nat, wishN T C how h le k = -9 → ∀ d : Int, 0 ≤ d → d < k → ¬ (0 < le d ∧ T.wo h d ≠ -1)
  | 0, _, d, d0, d1 => by omega
  | k + 1, hq, d, d0, d1 => by
    unfold wishN at hq
    split at hq
    · omega
    · rename_i hc
      by_cases e : d = k
      · subst e
        intro z
        exact hc ⟨z.1, z.2, Or.inl hq⟩
      · exact wishN_none k hq d d0 (by omega)
theorem sumI_pick {f : Int → Int} {j : Int} : ∀ n : Nat, 0 ≤ j → (j < n → sumI (fun g => if j = g then f g else 0) n = f j) ∧ (n ≤ j → sumI (fun g => if j = g then f g else 0) n = 0)
  | 0, h0 => ⟨fun h => by omega, fun _ => rfl⟩
  | n + 1, h0 => by
    have ih := sumI_pick (f := f) n h0
    refine ⟨fun h => ?_, fun h => ?_⟩
    · show sumI (fun g => if j = g then f g else 0) n + (if j = (n : Int) then f n else 0) = f j
      by_cases e : j = n
      · rw [ih.2 (by omega), if_pos e, e]
        omega
      · rw [ih.1 (by omega), if_neg e]
        omega
    · show sumI (fun g => if j = g then f g else 0) n + (if j = (n : Int) then f n else 0) = 0
      rw [ih.2 (by omega), if_neg (by omega)]
      rfl
theorem sumI_add2 {f g : Int → Int} : ∀ n : Nat, sumI (fun i => f i + g i) n = sumI f n + sumI g n
  | 0 => rfl
  | n + 1 => by
    have ih := sumI_add2 (f := f) (g := g) n
    show sumI (fun i => f i + g i) n + (f n + g n) = sumI f n + f n + (sumI g n + g n)
    omega
theorem sumI_nul : ∀ n : Nat, sumI (fun _ => 0) n = 0
  | 0 => rfl
  | n + 1 => by
    show sumI (fun _ => 0) n + 0 = 0
    rw [sumI_nul n]
    rfl
theorem sumI_swap {a : Int → Int → Int} {n : Nat} : ∀ m : Nat, sumI (fun k => sumI (a k) n) m = sumI (fun g => sumI (fun k => a k g) m) n
  | 0 => (sumI_nul n).symm
  | m + 1 => by
    have ih := sumI_swap (a := a) (n := n) m
    show sumI (fun k => sumI (a k) n) m + sumI (a m) n = sumI (fun g => sumI (fun k => a k g) m + a m g) n
    rw [sumI_add2, ih]
theorem sumI_perm {f od : Int → Int} {n : Nat} (h : ∀ k : Int, 0 ≤ k → k < n → 0 ≤ od k ∧ od k < n) (hi : ∀ s s' : Int, 0 ≤ s → s < n → 0 ≤ s' → s' < n → od s = od s' → s = s') (hs : ∀ g : Int, 0 ≤ g → g < n → ∃ s : Int, 0 ≤ s ∧ s < n ∧ od s = g) : sumI (fun k => f (od k)) n = sumI f n := by
  have e1 : sumI (fun k => f (od k)) n = sumI (fun k => sumI (fun g => if od k = g then f g else 0) n) n := sumI_congr n (fun i i0 i1 => ((sumI_pick (f := f) n (h i i0 i1).1).1 (h i i0 i1).2).symm)
  rw [e1, sumI_swap]
  refine sumI_congr n (fun g g0 g1 => ?_)
  obtain ⟨s0, a0, a1, a2⟩ := hs g g0 g1
  refine (sumI_congr n (fun k k0 k1 => ?_)).trans ((sumI_pick (f := fun _ => f g) n a0).1 a1)
  by_cases e : od k = g
  · rw [if_pos e, if_pos (hi s0 k a0 a1 k0 k1 (a2.trans e.symm))]
  · rw [if_neg e, if_neg (fun z => e (by rw [← z]; exact a2))]
theorem rot_eq {s t n : Int} (hs : 0 ≤ s ∧ s < n) (ht : 0 ≤ t ∧ t < n) : (s + t < n ∧ (s + t) % n = s + t) ∨ (n ≤ s + t ∧ (s + t) % n = s + t - n) := by
  by_cases h : s + t < n
  · exact Or.inl ⟨h, Int.emod_eq_of_lt (by omega) h⟩
  · refine Or.inr ⟨by omega, ?_⟩
    have e : s + t = (s + t - n) + n := by omega
    rw [e, Int.add_emod_right, Int.emod_eq_of_lt (by omega) (by omega)]
    omega
theorem tgt_inj {T : TT} {C : CC} (hC : C.ok T) {s s' : Int} (h0 : 0 ≤ s) (h1 : s < C.se) (h0' : 0 ≤ s') (h1' : s' < C.se) (hst : C.st < C.se) (h : tgt C s = tgt C s') : s = s' := by
  have hc := hC
  obtain ⟨z1, z2, z3, z4, z5, z6, z7, z8, z9, z10, z11⟩ := hc
  have a := tgt_ix hC (s := s)
  have a' := tgt_ix hC (s := s')
  have e := z10 _ _ a.1 a.2 a'.1 a'.2 h
  have r := rot_eq (s := s) (t := C.st) ⟨h0, h1⟩ ⟨by omega, hst⟩
  have r' := rot_eq (s := s') (t := C.st) ⟨h0', h1'⟩ ⟨by omega, hst⟩
  omega
theorem askN_go {T : TT} {C : CC} {c c' g : Int} {e : ES} (h : c' ≠ c) : ∀ k : Nat, (askN T C c k e).go c' g = e.go c' g
  | 0 => rfl
  | k + 1 => (u2_ne (Or.inl h)).trans (askN_go h k)
theorem crs_go {T : TT} {C : CC} {c g : Int} {e : ES} : ∀ k m : Nat, c < k → (crsN T C (k + m) e).go c g = (crsN T C k e).go c g
  | k, 0, h => rfl
  | k, m + 1, h => (askN_go (c := ((k + m : Nat) : Int)) (by omega) _).trans (crs_go k m h)
theorem askN_in {T : TT} {C : CC} (hC : C.ok T) (hst : C.st < C.se) {c s : Int} {e : ES} (s0 : 0 ≤ s) : ∀ k m : Nat, s < k → ((k + m : Nat) : Int) ≤ C.se → (askN T C c (k + m) e).go c (tgt C s) = (askN T C c k e).go c (tgt C s)
  | k, 0, _, _ => rfl
  | k, m + 1, h, hk => by
    refine (u2_ne (Or.inr ?_)).trans (askN_in hC hst s0 k m h (by omega))
    intro z
    have := tgt_inj hC s0 (by omega) (s' := ((k + m : Nat) : Int)) (by omega) (by omega) hst z
    omega
/-- what one got, in the end, is what was asked for then -/
theorem evE_go {T : TT} {C : CC} (hC : C.ok T) (hst : C.st < C.se) {la : Int → Int} {c s : Nat} (hc : (c : Int) < C.co) (hs : (s : Int) < C.se) : (evE T C la).go c (tgt C s) = askD T C c s (askN T C c s (crsN T C c (ev0 T la))) := by
  have e1 : C.co.toNat = (c + 1) + (C.co.toNat - (c + 1)) := by omega
  have e2 : C.se.toNat = (s + 1) + (C.se.toNat - (s + 1)) := by omega
  show (crsN T C C.co.toNat (ev0 T la)).go c (tgt C s) = _
  rw [e1, crs_go (c + 1) _ (by omega)]
  show (askN T C c C.se.toNat (crsN T C c (ev0 T la))).go c (tgt C s) = _
  rw [e2, askN_in hC hst (by omega) (s + 1) _ (by omega) (by omega)]
  exact u2_eq _ _ _ _
theorem div_ix {n c s : Int} (hn : 0 < n) (hs : 0 ≤ s ∧ s < n) : (c * n + s) / n = c ∧ (c * n + s) % n = s := by
  have e : c * n + s = s + n * c := by rw [Int.mul_comm]; omega
  rw [e]
  refine ⟨?_, ?_⟩
  · rw [Int.add_mul_ediv_left _ _ (by omega), Int.ediv_eq_zero_of_lt hs.1 hs.2]
    omega
  · rw [Int.add_mul_emod_self_left, Int.emod_eq_of_lt hs.1 hs.2]
/-- the next asking of a row that tells the evening -/
theorem jud_step {V : VV} {k i : Int} (hT : V.T.ok) (hC : V.C.now V.T) {c : Nat} (s : Nat) (hs : ((s + 1 : Nat) : Int) ≤ V.T.ng) (hc : (c : Int) < V.C.co) (hj : jc V k i ((c * V.T.ng.toNat + s : Nat) : Int) = (evV V).go c (tgt V.C s))
    (ih : judL V k i (c * V.T.ng.toNat + s) = (askN V.T V.C c s (crsN V.T V.C c (ev0 V.T V.la))).le ∧ judN V k i (c * V.T.ng.toNat + s) = -9) :
    judL V k i (c * V.T.ng.toNat + (s + 1)) = (askN V.T V.C c (s + 1) (crsN V.T V.C c (ev0 V.T V.la))).le ∧ judN V k i (c * V.T.ng.toNat + (s + 1)) = -9 := by
  have hn := hT.1
  have hCo := hC.1
  have hse := hC.2.1
  have hst : V.C.st < V.C.se := by
    have := hCo.2.2.2.1
    omega
  have hgo := hj.trans (evE_go (la := V.la) hCo hst hc (by omega : ((s : Nat) : Int) < V.C.se))
  have hix : judT V ((c * V.T.ng.toNat + s : Nat) : Int) = tgt V.C s := by
    have e : ((c * V.T.ng.toNat + s : Nat) : Int) = (c : Int) * V.T.ng + s := by
      rw [Int.natCast_add, Int.natCast_mul, show ((V.T.ng.toNat : Nat) : Int) = V.T.ng by omega]
    unfold judT
    rw [e, (div_ix (c := (c : Int)) (s := (s : Int)) (by omega : 0 < V.T.ng) ⟨by omega, by omega⟩).2]
  obtain ⟨i1, i2⟩ := ih
  have hin := askD_in hT V.C c s (askN V.T V.C c s (crsN V.T V.C c (ev0 V.T V.la)))
  have hw : askD V.T V.C c s (askN V.T V.C c s (crsN V.T V.C c (ev0 V.T V.la))) = -9 → ∀ d : Int, 0 ≤ d → d < V.T.nd.toNat → ¬ (0 < (askN V.T V.C c s (crsN V.T V.C c (ev0 V.T V.la))).le d ∧ V.T.wo (tgt V.C s) d ≠ -1) := fun q => wishN_none V.T.nd.toNat q
  have hle : (askN V.T V.C c (s + 1) (crsN V.T V.C c (ev0 V.T V.la))).le = if askD V.T V.C c s (askN V.T V.C c s (crsN V.T V.C c (ev0 V.T V.la))) < 0 then (askN V.T V.C c s (crsN V.T V.C c (ev0 V.T V.la))).le else u1 (askN V.T V.C c s (crsN V.T V.C c (ev0 V.T V.la))).le (askD V.T V.C c s (askN V.T V.C c s (crsN V.T V.C c (ev0 V.T V.la)))) ((askN V.T V.C c s (crsN V.T V.C c (ev0 V.T V.la))).le (askD V.T V.C c s (askN V.T V.C c s (crsN V.T V.C c (ev0 V.T V.la)))) - 1) := rfl
  rw [hle]
  rw [← hgo] at hw hin ⊢
  rw [← i1] at hw hin ⊢
  generalize hJ : c * V.T.ng.toNat + s = J at i1 i2 hix hw hin ⊢
  rw [show c * V.T.ng.toNat + (s + 1) = J + 1 by omega]
  rw [← hix] at hw hin
  have hB : judB V k i J = 1 := by
    unfold judB
    rcases hin with q | ⟨q0, q1, q2, q3⟩
    · rw [if_pos q]
      rcases anyF_in (T := V.T) (L := judL V k i J) (h := judT V J) V.T.nd.toNat with ⟨a, _⟩ | ⟨_, d, d0, d1, d2⟩
      · rw [a]
        rfl
      · exact absurd d2 (hw q d d0 d1)
    · rw [if_neg (by omega), if_pos ⟨q2, q3⟩]
  refine ⟨?_, ?_⟩
  · show (if jc V k i J = -9 then judL V k i J else u1 (judL V k i J) (jc V k i J) (judL V k i J (jc V k i J) - 1)) = _
    rcases hin with q | ⟨q0, q1, q2, q3⟩
    · rw [if_pos q, if_pos (by omega)]
    · rw [if_neg (by omega), if_neg (by omega)]
  · show (if judN V k i J ≠ -9 then judN V k i J else if judB V k i J = 1 then -9 else (J : Int)) = -9
    rw [if_neg (fun z => z i2), if_pos hB]
/-- a row that tells the evening: each asking is right -/
theorem jud_right {V : VV} {k i : Int} (hT : V.T.ok) (hC : V.C.now V.T) (hj : ∀ c s : Nat, (c : Int) < V.C.co → (s : Int) < V.T.ng → jc V k i ((c * V.T.ng.toNat + s : Nat) : Int) = (evV V).go c (tgt V.C s)) : ∀ c : Nat, (c : Int) ≤ V.C.co → ∀ s : Nat, (s : Int) ≤ V.T.ng → ((c : Int) < V.C.co ∨ s = 0) →
    judL V k i (c * V.T.ng.toNat + s) = (askN V.T V.C c s (crsN V.T V.C c (ev0 V.T V.la))).le ∧ judN V k i (c * V.T.ng.toNat + s) = -9 := by
  have hn := hT.1
  have hCo := hC.1
  have hse := hC.2.1
  have hst : V.C.st < V.C.se := by
    have := hCo.2.2.2.1
    omega
  intro c
  induction c with
  | zero =>
    intro _ s
    induction s with
    | zero =>
      intro _ _
      rw [Nat.zero_mul]
      exact ⟨rfl, rfl⟩
    | succ s ih =>
      intro hs hcs
      have hlt := hcs.resolve_right (by omega)
      exact jud_step hT hC s hs hlt (hj _ s hlt (by omega)) (ih (by omega) (Or.inl hlt))
  | succ c ihc =>
    intro hc s
    induction s with
    | zero =>
      intro _ _
      have q := ihc (by omega) V.T.ng.toNat (by omega) (Or.inl (by omega))
      rw [show (c + 1) * V.T.ng.toNat + 0 = c * V.T.ng.toNat + V.T.ng.toNat by rw [Nat.add_mul]; omega]
      refine ⟨q.1.trans ?_, q.2⟩
      show _ = (askN V.T V.C c V.C.se.toNat (crsN V.T V.C c (ev0 V.T V.la))).le
      rw [hse]
    | succ s ih =>
      intro hs hcs
      have hlt := hcs.resolve_right (by omega)
      exact jud_step hT hC s hs hlt (hj _ s hlt (by omega)) (ih (by omega) (Or.inl hlt))
theorem judN_in {V : VV} {k i : Int} : ∀ j : Nat, judN V k i j = -9 ∨ (0 ≤ judN V k i j ∧ judN V k i j < j)
  | 0 => Or.inl rfl
  | j + 1 => by
    rcases judN_in (V := V) (k := k) (i := i) j with q | q
    · unfold judN
      rw [if_neg (fun z => z q)]
      split
      · exact Or.inl rfl
      · exact Or.inr ⟨by omega, by omega⟩
    · unfold judN
      rw [if_pos (by omega)]
      exact Or.inr ⟨q.1, by omega⟩
theorem judN_stp {V : VV} {k i : Int} {j : Nat} (h : judN V k i j ≠ -9) : ∀ m : Nat, judN V k i (j + m) = judN V k i j
  | 0 => rfl
  | m + 1 => by
    have ih := judN_stp h m
    show (if judN V k i (j + m) ≠ -9 then judN V k i (j + m) else if judB V k i (j + m) = 1 then -9 else ((j + m : Nat) : Int)) = _
    rw [ih, if_pos h]
theorem badN_zero {V : VV} {k i : Int} : ∀ j : Nat, (∀ m : Nat, m < j → jc V k i m = -9 ∨ (0 ≤ jc V k i m ∧ jc V k i m < V.T.nd)) → badN V k i j = 0
  | 0, _ => rfl
  | j + 1, h => by
    have ih := badN_zero j (fun m hm => h m (by omega))
    have hj := h j (by omega)
    unfold badN
    rw [if_neg (by omega), if_neg (by omega)]
