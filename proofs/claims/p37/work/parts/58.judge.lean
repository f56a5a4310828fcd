/-! judge -/
def jc (V : VV) (k i j : Int) : Int := V.ce k (i + j)
def judL (V : VV) (k i : Int) : Nat → Int → Int
  | 0 => V.T.mn
  | j + 1 => if jc V k i j = -9 then judL V k i j else u1 (judL V k i j) (jc V k i j) (judL V k i j (jc V k i j) - 1)
/-- whether there is one left that he may have: 1 or 0 -/
def anyF (T : TT) (L : Int → Int) (h : Int) : Nat → Int
  | 0 => 0
  | d + 1 => if 0 < L d ∧ T.wo h d ≠ -1 then 1 else anyF T L h d
def judT (V : VV) (j : Int) : Int := tgt V.C (j % V.T.ng)
def judB (V : VV) (k i : Int) (j : Nat) : Int := if jc V k i j = -9 then 1 - anyF V.T (judL V k i j) (judT V j) V.T.nd.toNat else if 0 < judL V k i j (jc V k i j) ∧ V.T.wo (judT V j) (jc V k i j) ≠ -1 then 1 else 0
def judN (V : VV) (k i : Int) : Nat → Int
  | 0 => -9
  | j + 1 => if judN V k i j ≠ -9 then judN V k i j else if judB V k i j = 1 then -9 else j
def badN (V : VV) (k i : Int) : Nat → Int
  | 0 => 0
  | j + 1 => if badN V k i j = 1 then 1 else if jc V k i j ≠ -9 ∧ ¬ (0 ≤ jc V k i j ∧ jc V k i j < V.T.nd) then 1 else 0
def r_judge (V : VV) (k so i z : Int) : Int := if refR V k so i z ≠ 0 then refR V k so i z else if ¬ 0 < V.T.ng then -3 else if V.C.co * V.T.ng < z then -2 else if badN V k i z.toNat = 1 then -1 else judN V k i z.toNat
theorem anyF_in {T : TT} {L : Int → Int} {h : Int} : ∀ k : Nat, (anyF T L h k = 0 ∧ ∀ d : Int, 0 ≤ d → d < k → ¬ (0 < L d ∧ T.wo h d ≠ -1)) ∨ (anyF T L h k = 1 ∧ ∃ d : Int, 0 ≤ d ∧ d < k ∧ 0 < L d ∧ T.wo h d ≠ -1)
  | 0 => Or.inl ⟨rfl, fun d d0 d1 => by omega⟩
  | k + 1 => by
    unfold anyF
    by_cases hq : 0 < L k ∧ T.wo h k ≠ -1
    · rw [if_pos hq]
      exact Or.inr ⟨rfl, k, by omega, by omega, hq⟩
    · rw [if_neg hq]
      rcases anyF_in (T := T) (L := L) (h := h) k with ⟨a, b⟩ | ⟨a, d, d0, d1, d2⟩
      · refine Or.inl ⟨a, fun d d0 d1 => ?_⟩
        by_cases hd : d = k
        · rw [hd]
          exact hq
        · exact b d d0 (by omega)
      · exact Or.inr ⟨a, d, d0, by omega, d2⟩
theorem badN_01 {V : VV} {k i : Int} : ∀ j : Nat, badN V k i j = 0 ∨ badN V k i j = 1
  | 0 => Or.inl rfl
  | j + 1 => by
    unfold badN
    split
    · exact Or.inr rfl
    · split
      · exact Or.inr rfl
      · exact Or.inl rfl
theorem badN_up {V : VV} {k i : Int} {j : Nat} (h : badN V k i j = 1) : ∀ m : Nat, j ≤ m → badN V k i m = 1
  | 0, hm => by
    have : j = 0 := by omega
    subst this
    exact h
  | m + 1, hm => by
    by_cases hq : j = m + 1
    · rw [← hq]
      exact h
    · unfold badN
      rw [if_pos (badN_up h m (by omega))]
theorem badN_no {V : VV} {k i : Int} {N : Nat} (h : badN V k i N = 0) {j : Nat} (hj : j < N) : jc V k i j = -9 ∨ (0 ≤ jc V k i j ∧ jc V k i j < V.T.nd) := by
  have h1 : badN V k i (j + 1) = 0 := by
    rcases badN_01 (V := V) (k := k) (i := i) (j + 1) with q | q
    · exact q
    · have := badN_up q N (by omega)
      omega
  unfold badN at h1
  split at h1
  · omega
  · split at h1
    · omega
    · rename_i q
      by_cases c : jc V k i j = -9
      · exact Or.inl c
      · by_cases c2 : 0 ≤ jc V k i j ∧ jc V k i j < V.T.nd
        · exact Or.inr c2
        · exact absurd ⟨c, c2⟩ q
theorem judL_in {V : VV} {k i : Int} : ∀ (j : Nat) (d : Int), V.T.mn d - j ≤ judL V k i j d ∧ judL V k i j d ≤ V.T.mn d
  | 0, d => by
    show V.T.mn d - ((0 : Nat) : Int) ≤ V.T.mn d ∧ V.T.mn d ≤ V.T.mn d
    omega
  | j + 1, d => by
    have ih := judL_in (V := V) (k := k) (i := i) j
    have i1 := ih d
    unfold judL
    split
    · omega
    · by_cases hq : d = jc V k i j
      · have i2 := ih (jc V k i j)
        rw [hq, u1_eq]
        omega
      · rw [u1_ne hq]
        omega
theorem judN_stop {V : VV} {k i : Int} {j : Nat} (h : judN V k i j = j ∨ True) (h1 : judN V k i (j + 1) = j) : ∀ m : Nat, j + 1 ≤ m → judN V k i m = j
  | 0, hm => by omega
  | m + 1, hm => by
    by_cases hq : j = m
    · rw [hq] at h1 ⊢
      exact h1
    · have := judN_stop h h1 m (by omega)
      unfold judN
      rw [if_pos (by omega)]
      exact this
theorem judN_go {V : VV} {k i : Int} {j : Nat} (h : judN V k i j = -9) (hb : judB V k i j = 1) : judN V k i (j + 1) = -9 := by
  unfold judN
  rw [if_neg (by omega), if_pos hb]
theorem judN_no {V : VV} {k i : Int} {j N : Nat} (h : judN V k i j = -9) (hb : judB V k i j ≠ 1) (hN : j < N) : judN V k i N = j := by
  refine judN_stop (Or.inr trivial) ?_ N (by omega)
  unfold judN
  rw [if_neg (by omega), if_neg hb]
theorem refR_0 {V : VV} {k so i z : Int} (h : refR V k so i z = 0) : (0 ≤ k ∧ k < 4) ∧ V.th k = 1 ∧ V.so k = so ∧ 0 ≤ z ∧ 0 ≤ i ∧ i ≤ V.sl k ∧ z ≤ V.sl k - i := by
  unfold refR at h
  split at h
  · omega
  · split at h
    · omega
    · split at h
      · omega
      · split at h
        · omega
        · split at h
          · omega
          · split at h
            · omega
            · omega
section JUDGE
variable {l : Launch} {E : qEv} {n : Nat} {sh : qSh} {I L : qI} {R : qR}
theorem ct_anyFor {t o : Nat} {g : Int} {T : TT} {Lf : Int → Int} (hT : qTab E.2.2 n sh R t o) (hg : 0 ≤ g ∧ g < 7) (hnd : I o 6 = T.nd) (hnd2 : 0 ≤ T.nd ∧ T.nd ≤ 6) (hb : ∀ d, 0 ≤ d → d < T.nd → in32 (I (o + 7 + g.toNat) d) ∧ in32 (I (t + 26) d)) (hE : ∀ d, 0 ≤ d → d < T.nd → I (t + 26) d = Lf d ∧ I (o + 7 + g.toNat) d = T.wo g d) :
    Ct l E 2 mX4_isAnyFor [.ref t, .int (zI g)] (n, sh, I, L, R) 0 0 (qP n sh I L R (qBo (anyF T Lf g T.nd.toNat = 1))) := by
  refine (ct_X4_isAnyFor hT hg hnd hnd2 hb).mono ?_
  rintro v S' ⟨v', I', L', R', rfl, rfl, rfl, rfl, rfl, hv⟩
  refine ⟨_, _, _, _, rfl, rfl, rfl, rfl, rfl, ?_⟩
  rcases anyF_in (T := T) (L := Lf) (h := g) T.nd.toNat with ⟨a, b⟩ | ⟨a, d, d0, d1, d2, d3⟩
  · rcases hv with ⟨-, d, d0, d1, d2, d3⟩ | ⟨hv, -⟩
    · rw [(hE d d0 d1).1] at d2
      rw [(hE d d0 d1).2] at d3
      exact absurd ⟨d2, d3⟩ (b d d0 (by omega))
    · exact Or.inr ⟨hv, by rw [a]; decide⟩
  · rcases hv with ⟨hv, -⟩ | ⟨-, hv⟩
    · exact Or.inl ⟨hv, a⟩
    · exact absurd ⟨d, d0, by omega, by rw [(hE d d0 (by omega)).1]; exact d2, by rw [(hE d d0 (by omega)).2]; exact d3⟩ hv
theorem anyF_01 {T : TT} {Lf : Int → Int} {h : Int} (k : Nat) : anyF T Lf h k = 0 ∨ anyF T Lf h k = 1 := by
  rcases anyF_in (T := T) (L := Lf) (h := h) k with ⟨a, -⟩ | ⟨a, -⟩
  · exact Or.inl a
  · exact Or.inr a
theorem ct_X6_firstThatCannotBe {x : Nat} {V : VV} {o d w1 w2 w3 : Nat} {k i z : Int} (h : CI0 E.2.2 n sh x I L R V o d w1 w2 w3) (hp : 0 < V.T.ng) (hk : 0 ≤ k ∧ k < 4) (hi : 0 ≤ i) (hz : 0 ≤ z ∧ z ≤ 56) (hiz : i + z ≤ 100) (hbad : badN V k i z.toNat = 0) :
    Ct l E 4 mX6_firstThatCannotBe [.ref x, .ref (x + 159 + 2 * k.toNat + 1), .int (zI i), .int (zI z)] (n, sh, I, L, R) 0 0 (qZ n sh (cpZ E.2.2 n sh x I R (judN V k i z.toNat) V)) := by
  obtain ⟨t1, t2, t3, -⟩ := h.full hp
  have hng := h.2.2.1.ng
  have hse := t2.2.1
  have st1 := t2.1.2.2.1
  have st2 := t2.1.2.2.2.1
  have hX := h.1
  have sok := h.2.2.1.1 k hk.1 hk.2
  have loop : ∀ j : Nat, j ≤ z.toNat → ∀ (I1 : qI) (R1 : qR), CI0 E.2.2 n sh x I1 L R1 V o d w1 o w3 → frO I I1 x 167 → frO R R1 x 167 → (I1 (x + 68) 5 = V.T.ng ∧ I1 (x + 68) 6 = V.C.st ∧ ∀ s, 0 ≤ s → s < V.T.ng → I1 (x + 68 + 15) s = V.C.od s) → (∀ d', 0 ≤ d' → d' < V.T.nd → I1 (x + 68 + 26) d' = judL V k i j d') → judN V k i j = -9 → Wk l E (qmo E 4 n 0 0 (qZ n sh (cpZ E.2.2 n sh x I R (judN V k i z.toNat) V))) mX6_firstThatCannotBe 0 0 21
      [(0, .ref x), (1, .ref (x + 159 + 2 * k.toNat + 1)), (2, .int (zI i)), (3, .int (zI z)), (4, .int (zI (j : Int)))] [] (n, sh, I1, L, R1) := by
    refine up_ind z.toNat ?_ ?_
    · rintro I1 R1 hh f1 f2 f3 f4 f5
      have hX := hh.1
      have ea := (hX.e0 hk).s0
      refine wk_iload (i := 4) (q := 23) dX6_firstThatCannotBe_21 rfl rfl ?_
      refine wk_iload_n (i := 3) (q := 24) dX6_firstThatCannotBe_23 rfl rfl rfl ?_
      refine wk_icmp_ge (t := 120) (q := 27) dX6_firstThatCannotBe_24 rfl rfl (by omega) (by omega) (fun hc24 => ?_) (fun hc24 => ?_)
      · refine wk_bipush (q := 122) dX6_firstThatCannotBe_120 rfl (by decide +kernel) ?_
        refine wk_iret dX6_firstThatCannotBe_122 rfl ⟨Nat.le_refl _, Nat.le_refl _⟩ rfl ?_
        exact ⟨_, _, _, _, rfl, rfl, f5.symm, hh.ci, f1, f2⟩
      · omega
    · rintro j hj ih I1 R1 hh f1 f2 f3 f4 f5
      have hX := hh.1
      have ea := (hX.e0 hk).s0
      have e6 := hh.2.2.2.2.2.2.2.1.1.1
      have e7 := hh.2.2.2.2.2.2.2.1.1.2.1
      have ecl := (hh.2.2.2.2.2.2.1 k hk.1 hk.2).2.2.2 (i + j) (by omega) (by omega)
      have bcl := sok.2.2.2.2 (i + j) (by omega) (by omega)
      have hjc : jc V k i j = V.ce k (i + j) := rfl
      have hb := badN_no hbad (j := j) (by omega)
      rw [hjc] at hb
      have m1 := Int.emod_nonneg (j : Int) (by omega : V.T.ng ≠ 0)
      have m2 := Int.emod_lt_of_pos (j : Int) hp
      have tg := tgt_in t2.1 ((j : Int) % V.T.ng)
      have tix := tgt_ix t2.1 (s := (j : Int) % V.T.ng)
      have hjT : judT V j = tgt V.C ((j : Int) % V.T.ng) := rfl
      have tj : 0 ≤ judT V j ∧ judT V j < V.T.ng := tg
      have eT : I1 (x + 68 + 15) (((j : Int) % V.T.ng + I1 (x + 68) 6) % I1 (x + 68) 5) = judT V j := by
        have tix' := tix
        rw [hse] at tix'
        rw [f3.1, f3.2.1, f3.2.2 _ tix'.1 tix'.2, hjT]
        unfold tgt
        rw [hse]
      have ew : ∀ d', 0 ≤ d' → d' < V.T.nd → I1 (o + 7 + (judT V j).toNat) d' = V.T.wo (judT V j) d' ∧ -1 ≤ V.T.wo (judT V j) d' ∧ V.T.wo (judT V j) d' ≤ 9 := fun d' d0 d1 => by
        have a1 := (hh.2.2.2.2.2.2.2.1.1.2.2.2 (judT V j) (by rw [hjT]; exact tg.1) (by rw [hjT]; exact tg.2)).2.2.2 d' d0 d1
        have a2 := (t1.2.2.2.2.2 (judT V j) (by rw [hjT]; exact tg.1) (by rw [hjT]; exact tg.2)).2.2.2.2.2.2 d' d0 d1
        exact ⟨a1, a2⟩
      have el : ∀ d', 0 ≤ d' → d' < V.T.nd → in32 (I1 (x + 68 + 26) d') := fun d' d0 d1 => by
        have a1 := judL_in (V := V) (k := k) (i := i) j d'
        have a2 := t1.2.2.2.2.1 d' d0 d1
        rw [f4 d' d0 d1]
        omega
      have eany := anyF_01 (T := V.T) (Lf := judL V k i j) (h := judT V j) V.T.nd.toNat
      have fin : ∀ v : Int, v = j → judB V k i j ≠ 1 → ∃ v' I' L' R', some (Value.int (zI v)) = some (.int (zI v')) ∧ (n, sh, I1, L, R1) = (n, sh, I', L', R') ∧ cpZ E.2.2 n sh x I R (judN V k i z.toNat) V v' I' L' R' := by
        rintro v rfl hB
        exact ⟨_, _, _, _, rfl, rfl, (judN_no f5 hB (by omega)).symm, hh.ci, f1, f2⟩
      have nxt : judB V k i j = 1 → ∀ I2 : qI, (∀ b y, b ≠ x + 68 + 26 → I2 b y = I1 b y) → (∀ d', 0 ≤ d' → d' < V.T.nd → I2 (x + 68 + 26) d' = judL V k i (j + 1) d') → Wk l E (qmo E 4 n 0 0 (qZ n sh (cpZ E.2.2 n sh x I R (judN V k i z.toNat) V))) mX6_firstThatCannotBe 0 0 21
          [(0, .ref x), (1, .ref (x + 159 + 2 * k.toNat + 1)), (2, .int (zI i)), (3, .int (zI z)), (4, .int (zI ((j : Int) + 1)))] [] (n, sh, I2, L, R1) := by
        intro hB I2 g1 g2
        exact ih I2 R1 (hh.scr hX ⟨rfl, rfl, rfl, rfl, rfl, rfl, rfl⟩ (fun b y q1 q2 => g1 b y (by omega)) (by rw [g1 _ _ (by omega)]; exact hh.2.2.2.1) (by rw [g1 _ _ (by omega)]; exact hh.2.2.2.2.1) (by rw [g1 _ _ (by omega)]; exact hh.2.2.2.2.2.1)) (fun b y q => by rw [g1 _ _ (by omega)]; exact f1 b y q) f2 ⟨by rw [g1 _ _ (by omega)]; exact f3.1, by rw [g1 _ _ (by omega)]; exact f3.2.1, fun s s0 s1 => by rw [g1 _ _ (by omega)]; exact f3.2.2 s s0 s1⟩ g2 (judN_go f5 hB)
      have hLn : judL V k i (j + 1) = if jc V k i j = -9 then judL V k i j else u1 (judL V k i j) (jc V k i j) (judL V k i j (jc V k i j) - 1) := rfl
      have hBn : judB V k i j = if jc V k i j = -9 then 1 - anyF V.T (judL V k i j) (judT V j) V.T.nd.toNat else if 0 < judL V k i j (jc V k i j) ∧ V.T.wo (judT V j) (jc V k i j) ≠ -1 then 1 else 0 := rfl
      rw [hjc] at hLn hBn
      refine wk_iload (i := 4) (q := 23) dX6_firstThatCannotBe_21 rfl rfl ?_
      refine wk_iload_n (i := 3) (q := 24) dX6_firstThatCannotBe_23 rfl rfl rfl ?_
      refine wk_icmp_ge (t := 120) (q := 27) dX6_firstThatCannotBe_24 rfl rfl (by omega) (by omega) (fun hc24 => ?_) (fun hc24 => ?_)
      · omega
      · refine wk_aload_n (i := 1) (q := 28) dX6_firstThatCannotBe_27 rfl rfl rfl ?_
        refine wk_iload_n (i := 2) (q := 29) dX6_firstThatCannotBe_28 rfl rfl rfl ?_
        refine wk_iload (i := 4) (q := 31) dX6_firstThatCannotBe_29 rfl rfl ?_
        refine wk_iadd (q := 32) dX6_firstThatCannotBe_31 rfl ?_
        refine wk_iald (q := 33) dX6_firstThatCannotBe_32 rfl ea (by omega) ?_
        rw [ecl]
        refine wk_istore (i := 5) (lo' := [(0, _), (1, _), (2, _), (3, _), (4, _), (5, _)]) (q := 35) dX6_firstThatCannotBe_33 rfl (by decide) rfl ?_
        refine wk_aload_n (i := 0) (q := 36) dX6_firstThatCannotBe_35 rfl rfl rfl ?_
        refine wk_getR (fi := 4) (q := 39) dX6_firstThatCannotBe_36 rfl fl_X6_34 rfl rfl hX.ob hX.r4 ?_
        refine wk_iload (i := 4) (q := 41) dX6_firstThatCannotBe_39 rfl rfl ?_
        refine wk_aload_n (i := 0) (q := 42) dX6_firstThatCannotBe_41 rfl rfl rfl ?_
        refine wk_getR (fi := 1) (q := 45) dX6_firstThatCannotBe_42 rfl fl_X6_20 rfl rfl hX.ob hX.r1 ?_
        refine wk_getI (fi := 7) (q := 48) dX6_firstThatCannotBe_45 rfl fl_X6_88 rfl rfl hX.o1.ob ?_
        rw [e7]
        refine wk_irem (q := 49) dX6_firstThatCannotBe_48 rfl (by omega) (by omega) ?_
        refine wk_cP1 (q := 52) dX6_firstThatCannotBe_49 rfl vl_X6_300 ⟨_, _, rfl⟩ hX.t4.1.ob (ct_X4_askedFor hX.t4 (by omega) (by rw [f3.1]; omega) (by rw [f3.2.1]; omega)) (qRo_m ok_X4_askedFor (by decide) (Nat.le_refl _) (Nat.le_refl _)) (Nat.le_of_ble_eq_true rfl) (fun v49 hv49 => ?_)
        rw [eT] at hv49
        subst hv49
        refine wk_istore (i := 6) (lo' := [(0, _), (1, _), (2, _), (3, _), (4, _), (5, _), (6, _)]) (q := 54) dX6_firstThatCannotBe_52 rfl (by decide) rfl ?_
        refine wk_iload (i := 5) (q := 56) dX6_firstThatCannotBe_54 rfl rfl ?_
        refine wk_bipush (q := 58) dX6_firstThatCannotBe_56 rfl (by decide +kernel) ?_
        refine wk_icmp_ne (t := 76) (q := 61) dX6_firstThatCannotBe_58 rfl rfl (by omega) (by omega) (fun hc58 => ?_) (fun hc58 => ?_)
        · refine wk_aload_n (i := 0) (q := 77) dX6_firstThatCannotBe_76 rfl rfl rfl ?_
          refine wk_getR (fi := 4) (q := 80) dX6_firstThatCannotBe_77 rfl fl_X6_34 rfl rfl hX.ob hX.r4 ?_
          refine wk_iload (i := 6) (q := 82) dX6_firstThatCannotBe_80 rfl rfl ?_
          refine wk_iload (i := 5) (q := 84) dX6_firstThatCannotBe_82 rfl rfl ?_
          refine wk_cP2 (q := 87) dX6_firstThatCannotBe_84 rfl vl_X6_306 ⟨_, _, rfl⟩ hX.t4.1.ob (ct_X4_isFor hX.t4 (by omega) (by omega) (by rw [(ew _ (by omega) (by omega)).1]; have := ew (V.ce k (i + j)) (by omega) (by omega); omega) (el _ (by omega) (by omega))) (qRo_m ok_X4_isFor (by decide) (Nat.le_refl _) (Nat.le_refl _)) (Nat.le_of_ble_eq_true rfl) (fun v84 hv84 => ?_)
          rcases hv84 with ⟨rfl, hv84⟩ | ⟨rfl, hv84⟩
          · rw [f4 _ (by omega) (by omega), (ew _ (by omega) (by omega)).1] at hv84
            refine wk_if_ne (t := 93) (q := 90) dX6_firstThatCannotBe_87 rfl rfl (by omega) (fun _ => ?_) (fun hq => absurd hq (by decide))
            refine wk_iload (i := 5) (q := 95) dX6_firstThatCannotBe_93 rfl rfl ?_
            refine wk_bipush (q := 97) dX6_firstThatCannotBe_95 rfl (by decide +kernel) ?_
            refine wk_icmp_eq (t := 114) (q := 100) dX6_firstThatCannotBe_97 rfl rfl (by omega) (by omega) (fun hc97 => ?_) (fun hc97 => ?_)
            · refine wk_iinc (lo' := [(0, _), (1, _), (2, _), (3, _), (4, _), (5, _), (6, _)]) (q := 117) dX6_firstThatCannotBe_114 rfl rfl (by decide) rfl ?_
              refine wk_goto (t := 21) dX6_firstThatCannotBe_117 rfl ?_
              refine wk_del (i := 6) (lo' := [(0, _), (1, _), (2, _), (3, _), (4, _), (5, _)]) rfl ?_
              refine wk_del (i := 5) (lo' := [(0, _), (1, _), (2, _), (3, _), (4, _)]) rfl ?_
              first
              | (refine nxt ?_ _ (fun b y q => rfl) (fun d' d0 d1 => ?_)
                 · rw [hBn, if_pos hc58]
                   omega
                 · rw [hLn, if_pos hc58]
                   exact f4 d' d0 d1)
              | (refine nxt ?_ _ (fun b y q => up_na _ _ _ _ q) (fun d' d0 d1 => ?_)
                 · rw [hBn, if_neg hc58, if_pos hv84]
                 · rw [hLn, if_neg hc58]
                   by_cases hq : d' = V.ce k (i + j)
                   · rw [hq, up_eq, u1_eq, f4 _ (by omega) (by omega)]
                   · rw [up_ni _ _ hq, u1_ne hq]
                     exact f4 d' d0 d1)
              | (exfalso; omega)
            · refine wk_aload_n (i := 0) (q := 101) dX6_firstThatCannotBe_100 rfl rfl rfl ?_
              refine wk_getR (fi := 4) (q := 104) dX6_firstThatCannotBe_101 rfl fl_X6_34 rfl rfl hX.ob hX.r4 ?_
              refine wk_getR (fi := 9) (q := 107) dX6_firstThatCannotBe_104 rfl fl_X6_309 rfl rfl hX.t4.1.ob hX.t4.1.r9 ?_
              refine wk_iload (i := 5) (q := 109) dX6_firstThatCannotBe_107 rfl rfl ?_
              refine wk_dup2 (q := 110) dX6_firstThatCannotBe_109 rfl rfl rfl ?_
              refine wk_iald (q := 111) dX6_firstThatCannotBe_110 rfl hX.t4.1.s9 (by omega) ?_
              refine wk_iconst (q := 112) dX6_firstThatCannotBe_111 rfl ?_
              refine wk_isub (q := 113) dX6_firstThatCannotBe_112 rfl ?_
              refine wk_iast (q := 114) dX6_firstThatCannotBe_113 rfl hX.t4.1.s9 (by omega) ?_
              refine wk_iinc (lo' := [(0, _), (1, _), (2, _), (3, _), (4, _), (5, _), (6, _)]) (q := 117) dX6_firstThatCannotBe_114 rfl rfl (by decide) rfl ?_
              refine wk_goto (t := 21) dX6_firstThatCannotBe_117 rfl ?_
              refine wk_del (i := 6) (lo' := [(0, _), (1, _), (2, _), (3, _), (4, _), (5, _)]) rfl ?_
              refine wk_del (i := 5) (lo' := [(0, _), (1, _), (2, _), (3, _), (4, _)]) rfl ?_
              first
              | (refine nxt ?_ _ (fun b y q => rfl) (fun d' d0 d1 => ?_)
                 · rw [hBn, if_pos hc58]
                   omega
                 · rw [hLn, if_pos hc58]
                   exact f4 d' d0 d1)
              | (refine nxt ?_ _ (fun b y q => up_na _ _ _ _ q) (fun d' d0 d1 => ?_)
                 · rw [hBn, if_neg hc58, if_pos hv84]
                 · rw [hLn, if_neg hc58]
                   by_cases hq : d' = V.ce k (i + j)
                   · rw [hq, up_eq, u1_eq, f4 _ (by omega) (by omega)]
                   · rw [up_ni _ _ hq, u1_ne hq]
                     exact f4 d' d0 d1)
              | (exfalso; omega)
          · rw [f4 _ (by omega) (by omega), (ew _ (by omega) (by omega)).1] at hv84
            refine wk_if_ne (t := 93) (q := 90) dX6_firstThatCannotBe_87 rfl rfl (by omega) (fun hq => absurd hq (by decide)) (fun _ => ?_)
            refine wk_iload (i := 4) (q := 92) dX6_firstThatCannotBe_90 rfl rfl ?_
            refine wk_iret dX6_firstThatCannotBe_92 rfl ⟨Nat.le_refl _, Nat.le_refl _⟩ rfl ?_
            refine fin _ rfl ?_
            rw [hBn]
            first
              | (rw [if_pos hc58]; omega)
              | (rw [if_neg hc58, if_neg hv84]
                 omega)
        · refine wk_aload_n (i := 0) (q := 62) dX6_firstThatCannotBe_61 rfl rfl rfl ?_
          refine wk_getR (fi := 4) (q := 65) dX6_firstThatCannotBe_62 rfl fl_X6_34 rfl rfl hX.ob hX.r4 ?_
          refine wk_iload (i := 6) (q := 67) dX6_firstThatCannotBe_65 rfl rfl ?_
          refine wk_cP1 (q := 70) dX6_firstThatCannotBe_67 rfl vl_X6_303 ⟨_, _, rfl⟩ hX.t4.1.ob (ct_anyFor (T := V.T) (Lf := judL V k i j) hX.t4 (by omega) e6 (by omega) (fun d' d0 d1 => ⟨by rw [(ew d' d0 d1).1]; have := ew d' d0 d1; omega, el d' d0 d1⟩) (fun d' d0 d1 => ⟨f4 d' d0 d1, (ew d' d0 d1).1⟩)) (qRo_m ok_X4_isAnyFor (by decide) (Nat.le_refl _) (Nat.le_refl _)) (Nat.le_of_ble_eq_true rfl) (fun v67 hv67 => ?_)
          rcases hv67 with ⟨rfl, hv67⟩ | ⟨rfl, hv67⟩
          · refine wk_if_eq (t := 93) (q := 73) dX6_firstThatCannotBe_70 rfl rfl (by omega) (fun hq => absurd hq (by decide)) (fun _ => ?_)
            refine wk_goto (t := 90) dX6_firstThatCannotBe_73 rfl ?_
            refine wk_iload (i := 4) (q := 92) dX6_firstThatCannotBe_90 rfl rfl ?_
            refine wk_iret dX6_firstThatCannotBe_92 rfl ⟨Nat.le_refl _, Nat.le_refl _⟩ rfl ?_
            refine fin _ rfl ?_
            rw [hBn]
            first
              | (rw [if_pos hc58]; omega)
              | (rw [if_neg hc58, if_neg hv84]
                 omega)
          · refine wk_if_eq (t := 93) (q := 73) dX6_firstThatCannotBe_70 rfl rfl (by omega) (fun _ => ?_) (fun hq => absurd hq (by decide))
            refine wk_iload (i := 5) (q := 95) dX6_firstThatCannotBe_93 rfl rfl ?_
            refine wk_bipush (q := 97) dX6_firstThatCannotBe_95 rfl (by decide +kernel) ?_
            refine wk_icmp_eq (t := 114) (q := 100) dX6_firstThatCannotBe_97 rfl rfl (by omega) (by omega) (fun hc97 => ?_) (fun hc97 => ?_)
            · refine wk_iinc (lo' := [(0, _), (1, _), (2, _), (3, _), (4, _), (5, _), (6, _)]) (q := 117) dX6_firstThatCannotBe_114 rfl rfl (by decide) rfl ?_
              refine wk_goto (t := 21) dX6_firstThatCannotBe_117 rfl ?_
              refine wk_del (i := 6) (lo' := [(0, _), (1, _), (2, _), (3, _), (4, _), (5, _)]) rfl ?_
              refine wk_del (i := 5) (lo' := [(0, _), (1, _), (2, _), (3, _), (4, _)]) rfl ?_
              first
              | (refine nxt ?_ _ (fun b y q => rfl) (fun d' d0 d1 => ?_)
                 · rw [hBn, if_pos hc58]
                   omega
                 · rw [hLn, if_pos hc58]
                   exact f4 d' d0 d1)
              | (refine nxt ?_ _ (fun b y q => up_na _ _ _ _ q) (fun d' d0 d1 => ?_)
                 · rw [hBn, if_neg hc58, if_pos hv84]
                 · rw [hLn, if_neg hc58]
                   by_cases hq : d' = V.ce k (i + j)
                   · rw [hq, up_eq, u1_eq, f4 _ (by omega) (by omega)]
                   · rw [up_ni _ _ hq, u1_ne hq]
                     exact f4 d' d0 d1)
              | (exfalso; omega)
            · refine wk_aload_n (i := 0) (q := 101) dX6_firstThatCannotBe_100 rfl rfl rfl ?_
              refine wk_getR (fi := 4) (q := 104) dX6_firstThatCannotBe_101 rfl fl_X6_34 rfl rfl hX.ob hX.r4 ?_
              refine wk_getR (fi := 9) (q := 107) dX6_firstThatCannotBe_104 rfl fl_X6_309 rfl rfl hX.t4.1.ob hX.t4.1.r9 ?_
              refine wk_iload (i := 5) (q := 109) dX6_firstThatCannotBe_107 rfl rfl ?_
              refine wk_dup2 (q := 110) dX6_firstThatCannotBe_109 rfl rfl rfl ?_
              refine wk_iald (q := 111) dX6_firstThatCannotBe_110 rfl hX.t4.1.s9 (by omega) ?_
              refine wk_iconst (q := 112) dX6_firstThatCannotBe_111 rfl ?_
              refine wk_isub (q := 113) dX6_firstThatCannotBe_112 rfl ?_
              refine wk_iast (q := 114) dX6_firstThatCannotBe_113 rfl hX.t4.1.s9 (by omega) ?_
              refine wk_iinc (lo' := [(0, _), (1, _), (2, _), (3, _), (4, _), (5, _), (6, _)]) (q := 117) dX6_firstThatCannotBe_114 rfl rfl (by decide) rfl ?_
              refine wk_goto (t := 21) dX6_firstThatCannotBe_117 rfl ?_
              refine wk_del (i := 6) (lo' := [(0, _), (1, _), (2, _), (3, _), (4, _), (5, _)]) rfl ?_
              refine wk_del (i := 5) (lo' := [(0, _), (1, _), (2, _), (3, _), (4, _)]) rfl ?_
              first
              | (refine nxt ?_ _ (fun b y q => rfl) (fun d' d0 d1 => ?_)
                 · rw [hBn, if_pos hc58]
                   omega
                 · rw [hLn, if_pos hc58]
                   exact f4 d' d0 d1)
              | (refine nxt ?_ _ (fun b y q => up_na _ _ _ _ q) (fun d' d0 d1 => ?_)
                 · rw [hBn, if_neg hc58, if_pos hv84]
                 · rw [hLn, if_neg hc58]
                   by_cases hq : d' = V.ce k (i + j)
                   · rw [hq, up_eq, u1_eq, f4 _ (by omega) (by omega)]
                   · rw [up_ni _ _ hq, u1_ne hq]
                     exact f4 d' d0 d1)
              | (exfalso; omega)
  refine Ct.of (lo := [(0, _), (1, _), (2, _), (3, _)]) ok_X6_firstThatCannotBe (Nat.le_of_ble_eq_true rfl) rfl ?_
  have ea := (hX.e0 hk).s0
  refine wk_aload_n (i := 0) (q := 1) dX6_firstThatCannotBe_0 rfl rfl rfl ?_
  refine wk_getR (fi := 4) (q := 4) dX6_firstThatCannotBe_1 rfl fl_X6_34 rfl rfl hX.ob hX.r4 ?_
  refine wk_aload_n (i := 0) (q := 5) dX6_firstThatCannotBe_4 rfl rfl rfl ?_
  refine wk_getR (fi := 3) (q := 8) dX6_firstThatCannotBe_5 rfl fl_X6_30 rfl rfl hX.ob hX.r3 ?_
  refine wk_cV1 (q := 11) dX6_firstThatCannotBe_8 rfl vl_X6_198 ⟨_, _, rfl⟩ hX.t4.1.ob (ct_tri h hp) (qRo_m ok_X4_become (by decide) (Nat.le_refl _) (Nat.le_refl _)) (Nat.le_of_ble_eq_true rfl) (fun I8 L8 R8 hv8 => ?_)
  obtain ⟨rfl, rfl, h2, j1, j2, j3, j4⟩ := hv8
  have hX := h2.1
  have ea := (hX.e0 hk).s0
  have hot := h2.otx
  refine wk_aload_n (i := 0) (q := 12) dX6_firstThatCannotBe_11 rfl rfl rfl ?_
  refine wk_getR (fi := 4) (q := 15) dX6_firstThatCannotBe_12 rfl fl_X6_34 rfl rfl hX.ob hX.r4 ?_
  refine wk_cV0 (q := 18) dX6_firstThatCannotBe_15 rfl vl_X6_297 ⟨_, _, rfl⟩ hX.t4.1.ob (ct_X4_layOut hX.t4) (qRo_m ok_X4_layOut (by decide) (Nat.le_refl _) (Nat.le_refl _)) (Nat.le_of_ble_eq_true rfl) (fun I15 L15 R15 hv15 => ?_)
  obtain ⟨rfl, rfl, rfl⟩ := hv15
  refine wk_iconst (q := 19) dX6_firstThatCannotBe_18 rfl ?_
  refine wk_istore (i := 4) (lo' := [(0, _), (1, _), (2, _), (3, _), (4, _)]) (q := 21) dX6_firstThatCannotBe_19 rfl (by decide) rfl ?_
  refine loop 0 (Nat.zero_le _) _ _ (h2.scr h2.1 ⟨rfl, rfl, rfl, rfl, rfl, rfl, rfl⟩ (fun b y q1 q2 => cpI_ne (by omega)) (by rw [cpI_ne (by omega)]; exact h2.2.2.2.1) (by rw [cpI_ne (by omega)]; exact h2.2.2.2.2.1) (by rw [cpI_ne (by omega)]; exact h2.2.2.2.2.2.1)) (fun b y q => by rw [cpI_ne (by omega)]; exact j1 b y (by omega)) (fun b y q => up_na _ _ _ _ (by omega)) ⟨by rw [cpI_ne (by omega), j2.1]; exact hse, by rw [cpI_ne (by omega)]; exact j2.2.1, fun s s0 s1 => by rw [cpI_ne (by omega)]; exact j2.2.2.2.1 s s0 (by omega)⟩ (fun d' d0 d1 => ?_) rfl
  rw [cpI_in (by omega), show (0 : Int) + (d' - 0) = d' by omega]
  exact (h2.2.2.2.2.2.2.2.1.1.2.2.1 d' d0 d1).1
end JUDGE
