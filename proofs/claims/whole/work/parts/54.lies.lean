/-! an evening of trial; lies -/
def lieC (V : VV) (g d : Int) : CC := V.C.setSa (fun a b => if a = g then (if V.T.wo g b = -1 then V.C.sa g b else if b = d then 9 else 0) else V.C.sa a b)
theorem lieC_ok {V : VV} (h : V.C.now V.T) (g d : Int) : (lieC V g d).now V.T := by
  obtain ⟨⟨z1, z2, z3, z4, z5, z6, z7, z8, z9, z10, z11⟩, h2⟩ := h
  refine ⟨⟨z1, z2, z3, z4, z5, z6, z7, z8, z9, z10, fun a a0 a1 => ⟨(z11 a a0 a1).1, (z11 a a0 a1).2.1, fun b b0 b1 => ?_⟩⟩, h2⟩
  have q := (z11 a a0 a1).2.2 b b0 b1
  show -1 ≤ (if a = g then (if V.T.wo g b = -1 then V.C.sa g b else if b = d then 9 else 0) else V.C.sa a b) ∧ (if a = g then (if V.T.wo g b = -1 then V.C.sa g b else if b = d then 9 else 0) else V.C.sa a b) ≤ 9 ∧ ((if a = g then (if V.T.wo g b = -1 then V.C.sa g b else if b = d then 9 else 0) else V.C.sa a b) = -1 ↔ V.T.wo a b = -1)
  by_cases hq : a = g
  · subst hq
    rw [if_pos rfl]
    split
    · exact q
    · split <;> omega
  · rw [if_neg hq]
    exact q
def lieG (V : VV) (g d : Int) : Int := (evE V.T (lieC V g d) V.la).gl g
def lieF (V : VV) (g : Int) : Nat → Int × Int
  | 0 => ((evV V).gl g, -9)
  | k + 1 => if V.T.wo g k ≠ -1 ∧ (lieF V g k).1 < lieG V g k then (lieG V g k, (k : Int)) else lieF V g k
def r_lies (V : VV) (g w : Int) : Int := if ¬ (0 ≤ g ∧ g < V.T.ng) then -1 else if ¬ (w = 0 ∨ w = 1) then -2 else if w = 0 then (lieF V g V.T.nd.toNat).2 else (lieF V g V.T.nd.toNat).1
theorem lieF_in {V : VV} (hT : V.T.ok) (hC : V.C.now V.T) {g : Int} (g0 : 0 ≤ g) (g1 : g < V.T.ng) : ∀ k : Nat, 0 ≤ (lieF V g k).1 ∧ (lieF V g k).1 ≤ 1368 ∧ -9 ≤ (lieF V g k).2 ∧ (lieF V g k).2 < k
  | 0 => by
    have := evE_gl hT hC.1 (la := V.la) g0 g1
    show 0 ≤ (evV V).gl g ∧ (evV V).gl g ≤ 1368 ∧ (-9 : Int) ≤ -9 ∧ (-9 : Int) < ((0 : Nat) : Int)
    unfold evV
    omega
  | k + 1 => by
    have ih := lieF_in hT hC g0 g1 k
    have := evE_gl hT (lieC_ok hC g k).1 (la := V.la) g0 g1
    unfold lieF
    split
    · show 0 ≤ lieG V g k ∧ lieG V g k ≤ 1368 ∧ (-9 : Int) ≤ (k : Int) ∧ (k : Int) < ((k + 1 : Nat) : Int)
      unfold lieG
      omega
    · omega
section LIES
variable {l : Launch} {E : qEv} {n : Nat} {sh : qSh} {I L : qI} {R : qR}
theorem ct_eveT {x : Nat} {V : VV} {o d u1 u3 : Nat} {C' : CC} {la : Int → Int} (h : CI0 E.2.2 n sh x I L R V o d u1 o u3) (hT : V.T.ok) (hC' : C'.ok V.T) (hsC : shC I (x + 68) V.T C') (hla : ∀ g, 0 ≤ g → g < V.T.ng → I (x + 68 + 17) g = la g) (hLA : LAok V.T la) (hsp : I (x + 68) 8 = C'.sp) :
    Ct l E 3 mX4_evening [.ref (x + 68)] (n, sh, I, L, R) 0 0 (qV n sh (fun I' L' R' => L' = L ∧ R' = R ∧ CI0 E.2.2 n sh x I' L R V o d u1 o u3 ∧ (∀ b i, ¬ (x + 68 ≤ b ∧ b < x + 106) → I' b i = I b i) ∧ evP I I' (x + 68) V.T C' la)) := by
  have hot := h.otx
  refine (ct_X4_evening h.1.t4 (by omega) hT hC' h.2.2.2.2.2.2.2.1.1 hsC hla hLA hsp).mono ?_
  rintro v S' ⟨I', L', R', rfl, rfl, rfl, rfl, g1, g2⟩
  have fr : ∀ b i, ¬ (x + 68 ≤ b ∧ b < x + 106) → I' b i = I b i := fun b i q => g1 b i (by omega) (by omega) (by omega) (by omega)
  exact ⟨_, _, _, rfl, rfl, rfl, rfl, h.scr h.1 ⟨rfl, rfl, rfl, rfl, rfl, rfl, rfl⟩ (fun b i q1 q2 => fr b i (by omega)) (by rw [fr _ _ (by omega)]; exact h.2.2.2.1) (by rw [fr _ _ (by omega)]; exact h.2.2.2.2.1) (by rw [fr _ _ (by omega)]; exact h.2.2.2.2.2.1), fr, g1, g2⟩
theorem ct_gladT {x : Nat} {V : VV} {o d u1 u3 : Nat} {e : ES} (h : CI0 E.2.2 n sh x I L R V o d u1 o u3) (hE : shE I (x + 68) V.T e) :
    Ct l E 1 mX4_gladInAll [.ref (x + 68)] (n, sh, I, L, R) 0 0 (qP n sh I L R (fun v => v = sumI e.gl V.T.ng.toNat)) := by
  have hng := h.2.2.1.ng
  have e7 := h.2.2.2.2.2.2.2.1.1.2.1
  refine (ct_X4_gladInAll h.1.t4 e7 (by omega)).mono ?_
  rintro v S' ⟨v', I', L', R', rfl, rfl, rfl, rfl, rfl, hv⟩
  exact ⟨_, _, _, _, rfl, rfl, rfl, rfl, rfl, hv.trans (sumI_congr _ (fun i i0 i1 => (hE.2 i i0 (by omega)).2.1))⟩
theorem oc_lies {x : Nat} {V : VV} {g w : Int} (h : CI E.2.2 n sh x I L R V) (hg : in32 g) (hw : in32 w) :
    Ct l E 5 mX6_lies [.ref x, .int (zI g), .int (zI w)] (n, sh, I, L, R) 0 0 (qZ n sh (cpZ E.2.2 n sh x I R (r_lies V g w) V)) := by
  obtain ⟨o, dr, u1', u2', u3', hh⟩ := id h
  obtain ⟨hX, hod, hok, h10, h11, h12, hS, hT, hB, hC⟩ := id hh
  have hng := hok.ng
  have e7 := hT.1.2.1
  have loop : (0 ≤ g ∧ g < V.T.ng) → (w = 0 ∨ w = 1) → ∀ k : Nat, k ≤ V.T.nd.toNat → ∀ (I1 : qI) (R1 : qR), CI0 E.2.2 n sh x I1 L R1 V o dr u1' o u3' → frO I I1 x 167 → frO R R1 x 167 → Wk l E (qmo E 5 n 0 0 (qZ n sh (cpZ E.2.2 n sh x I R (r_lies V g w) V))) mX6_lies 0 0 41
      [(0, .ref x), (1, .int (zI g)), (2, .int (zI w)), (3, .int (zI (lieF V g k).1)), (4, .int (zI (lieF V g k).2)), (5, .int (zI (k : Int)))] [] (n, sh, I1, L, R1) := by
    intro hgg hw2
    obtain ⟨t1, t2, t3⟩ := hok.tab (by omega)
    have hlf := lieF_in t1 t2 hgg.1 hgg.2
    refine up_ind V.T.nd.toNat ?_ ?_
    · rintro I1 R1 hh f1 f2
      have hX := hh.1
      have e6 := hh.2.2.2.2.2.2.2.1.1.1
      have q := hlf V.T.nd.toNat
      refine wk_iload (i := 5) (q := 43) dX6_lies_41 rfl rfl ?_
      refine wk_aload_n (i := 0) (q := 44) dX6_lies_43 rfl rfl rfl ?_
      refine wk_getR (fi := 1) (q := 47) dX6_lies_44 rfl fl_X6_20 rfl rfl hX.ob hX.r1 ?_
      refine wk_getI (fi := 6) (q := 50) dX6_lies_47 rfl fl_X6_235 rfl rfl hX.o1.ob ?_
      refine wk_icmp_ge (t := 127) (q := 53) dX6_lies_50 rfl rfl (by omega) (by omega) (fun hc50 => ?_) (fun hc50 => ?_)
      · refine wk_iload_n (i := 2) (q := 128) dX6_lies_127 rfl rfl rfl ?_
        refine wk_if_ne (t := 136) (q := 131) dX6_lies_128 rfl rfl (by omega) (fun hc128 => ?_) (fun hc128 => ?_)
        · refine wk_iload_n (i := 3) (q := 137) dX6_lies_136 rfl rfl rfl ?_
          refine wk_iret dX6_lies_137 rfl ⟨Nat.le_refl _, Nat.le_refl _⟩ rfl ?_
          refine ⟨_, _, _, _, rfl, rfl, ?_, hh.ci, f1, f2⟩
          unfold r_lies
          rw [if_neg (by omega), if_neg (by omega)]
          first
            | rw [if_pos hc128]
            | rw [if_neg hc128]
        · refine wk_iload (i := 4) (q := 133) dX6_lies_131 rfl rfl ?_
          refine wk_goto (t := 137) dX6_lies_133 rfl ?_
          refine wk_iret dX6_lies_137 rfl ⟨Nat.le_refl _, Nat.le_refl _⟩ rfl ?_
          refine ⟨_, _, _, _, rfl, rfl, ?_, hh.ci, f1, f2⟩
          unfold r_lies
          rw [if_neg (by omega), if_neg (by omega)]
          first
            | rw [if_pos hc128]
            | rw [if_neg hc128]
      · omega
    · rintro k hk ih I1 R1 hh f1 f2
      have hX := hh.1
      have hot := hh.otx
      have e6 := hh.2.2.2.2.2.2.2.1.1.1
      have eg := (hh.2.2.2.2.2.2.2.1.1.2.2.2 g hgg.1 hgg.2).2.2.2
      have ek := eg k (by omega) (by omega)
      have wk := (t1.2.2.2.2.2 g hgg.1 hgg.2).2.2.2.2.2.2 k (by omega) (by omega)
      have q := hlf k
      have q2 := evE_gl t1 (lieC_ok t2 g k).1 (la := V.la) hgg.1 hgg.2
      have q3 : lieG V g k = (evE V.T (lieC V g k) V.la).gl g := rfl
      have stay : (¬ (V.T.wo g k ≠ -1 ∧ (lieF V g k).1 < lieG V g k)) → ∀ (I2 : qI) (R2 : qR), CI0 E.2.2 n sh x I2 L R2 V o dr u1' o u3' → frO I I2 x 167 → frO R R2 x 167 → Wk l E (qmo E 5 n 0 0 (qZ n sh (cpZ E.2.2 n sh x I R (r_lies V g w) V))) mX6_lies 0 0 41
          [(0, .ref x), (1, .int (zI g)), (2, .int (zI w)), (3, .int (zI (lieF V g k).1)), (4, .int (zI (lieF V g k).2)), (5, .int (zI ((k : Int) + 1)))] [] (n, sh, I2, L, R2) := by
        intro hq I2 R2 a1 a2 a3
        have := ih I2 R2 a1 a2 a3
        unfold lieF at this
        rw [if_neg hq] at this
        exact this
      have take : V.T.wo g k ≠ -1 → (lieF V g k).1 < lieG V g k → ∀ (I2 : qI) (R2 : qR), CI0 E.2.2 n sh x I2 L R2 V o dr u1' o u3' → frO I I2 x 167 → frO R R2 x 167 → Wk l E (qmo E 5 n 0 0 (qZ n sh (cpZ E.2.2 n sh x I R (r_lies V g w) V))) mX6_lies 0 0 41
          [(0, .ref x), (1, .int (zI g)), (2, .int (zI w)), (3, .int (zI (lieG V g k))), (4, .int (zI (k : Int))), (5, .int (zI ((k : Int) + 1)))] [] (n, sh, I2, L, R2) := by
        intro hq1 hq2 I2 R2 a1 a2 a3
        have := ih I2 R2 a1 a2 a3
        unfold lieF at this
        rw [if_pos ⟨hq1, hq2⟩] at this
        exact this
      refine wk_iload (i := 5) (q := 43) dX6_lies_41 rfl rfl ?_
      refine wk_aload_n (i := 0) (q := 44) dX6_lies_43 rfl rfl rfl ?_
      refine wk_getR (fi := 1) (q := 47) dX6_lies_44 rfl fl_X6_20 rfl rfl hX.ob hX.r1 ?_
      refine wk_getI (fi := 6) (q := 50) dX6_lies_47 rfl fl_X6_235 rfl rfl hX.o1.ob ?_
      refine wk_icmp_ge (t := 127) (q := 53) dX6_lies_50 rfl rfl (by omega) (by omega) (fun hc50 => ?_) (fun hc50 => ?_)
      · omega
      · refine wk_aload_n (i := 0) (q := 54) dX6_lies_53 rfl rfl rfl ?_
        refine wk_getR (fi := 1) (q := 57) dX6_lies_54 rfl fl_X6_20 rfl rfl hX.ob hX.r1 ?_
        refine wk_iload_n (i := 1) (q := 58) dX6_lies_57 rfl rfl rfl ?_
        refine wk_iload (i := 5) (q := 60) dX6_lies_58 rfl rfl ?_
        refine wk_cP2 (q := 63) dX6_lies_60 rfl vl_X6_128 ⟨_, _, rfl⟩ hX.o1.ob (ct_X5_mayHave hX.o1 (by omega) (by omega) (by rw [ek]; omega)) (qRo_m ok_X5_mayHave (by decide) (Nat.le_refl _) (Nat.le_refl _)) (Nat.le_of_ble_eq_true rfl) (fun v60 hv60 => ?_)
        rcases hv60 with ⟨rfl, hv60⟩ | ⟨rfl, hv60⟩
        · rw [ek] at hv60
          refine wk_if_eq (t := 121) (q := 66) dX6_lies_63 rfl rfl (by omega) (fun hq => absurd hq (by decide)) (fun _ => ?_)
          refine wk_aload_n (i := 0) (q := 67) dX6_lies_66 rfl rfl rfl ?_
          refine wk_getR (fi := 4) (q := 70) dX6_lies_67 rfl fl_X6_34 rfl rfl hX.ob hX.r4 ?_
          refine wk_aload_n (i := 0) (q := 71) dX6_lies_70 rfl rfl rfl ?_
          refine wk_getR (fi := 3) (q := 74) dX6_lies_71 rfl fl_X6_30 rfl rfl hX.ob hX.r3 ?_
          refine wk_cV1 (q := 77) dX6_lies_74 rfl vl_X6_198 ⟨_, _, rfl⟩ hX.t4.1.ob (ct_tri hh (by omega)) (qRo_m ok_X4_become (by decide) (Nat.le_refl _) (Nat.le_refl _)) (Nat.le_of_ble_eq_true rfl) (fun I74 L74 R74 hv74 => ?_)
          obtain ⟨rfl, rfl, h2, j1, j2, j3, j4⟩ := hv74
          have hX := h2.1
          have eg2 := (h2.2.2.2.2.2.2.2.1.1.2.2.2 g hgg.1 hgg.2).2.2.2
          refine wk_aload_n (i := 0) (q := 78) dX6_lies_77 rfl rfl rfl ?_
          refine wk_getR (fi := 4) (q := 81) dX6_lies_78 rfl fl_X6_34 rfl rfl hX.ob hX.r4 ?_
          refine wk_iload_n (i := 1) (q := 82) dX6_lies_81 rfl rfl rfl ?_
          refine wk_iload (i := 5) (q := 84) dX6_lies_82 rfl rfl ?_
          refine wk_cV2 (q := 87) dX6_lies_84 rfl vl_X6_238 ⟨_, _, rfl⟩ hX.t4.1.ob (ct_X4_sayOnly hX.t4 (by omega) (by omega) (by omega) h2.2.2.2.2.2.2.2.1.1.1 (by omega) (fun d d0 d1 => by rw [eg2 d d0 d1]; have := (t1.2.2.2.2.2 g hgg.1 hgg.2).2.2.2.2.2.2 d d0 d1; omega)) (qRo_m ok_X4_sayOnly (by decide) (Nat.le_refl _) (Nat.le_refl _)) (Nat.le_of_ble_eq_true rfl) (fun I84 L84 R84 hv84 => ?_)
          obtain ⟨rfl, rfl, y1, y2⟩ := hv84
          have fy : ∀ b i, ¬ (x + 68 ≤ b ∧ b < x + 106) → I84 b i = I74 b i := fun b i q => y1 b i (by omega)
          have h3 := h2.scr (I' := I84) h2.1 ⟨rfl, rfl, rfl, rfl, rfl, rfl, rfl⟩ (fun b i q1 q2 => fy b i (by omega)) (by rw [fy _ _ (by omega)]; exact h2.2.2.2.1) (by rw [fy _ _ (by omega)]; exact h2.2.2.2.2.1) (by rw [fy _ _ (by omega)]; exact h2.2.2.2.2.2.1)
          have sC : shC I84 (x + 68) V.T (lieC V g k) := by
            obtain ⟨b1, b2, b3, b4, b5⟩ := j2
            refine ⟨by rw [y1 _ _ (by omega)]; exact b1, by rw [y1 _ _ (by omega)]; exact b2, by rw [y1 _ _ (by omega)]; exact b3, fun s s0 s1 => by rw [y1 _ _ (by omega)]; exact b4 s s0 s1, fun a a0 a1 => ⟨by rw [y1 _ _ (by omega)]; exact (b5 a a0 a1).1, fun b b0 b1' => ?_⟩⟩
            show _ = if a = g then (if V.T.wo g b = -1 then V.C.sa g b else if b = (k : Int) then 9 else 0) else V.C.sa a b
            by_cases hq : a = g
            · rw [hq, if_pos rfl, y2 b b0 b1', eg2 b b0 b1', (b5 g hgg.1 hgg.2).2 b b0 b1']
            · rw [if_neg hq, y1 _ _ (by omega)]
              exact (b5 a a0 a1).2 b b0 b1'
          refine wk_aload_n (i := 0) (q := 88) dX6_lies_87 rfl rfl rfl ?_
          refine wk_getR (fi := 4) (q := 91) dX6_lies_88 rfl fl_X6_34 rfl rfl hX.ob hX.r4 ?_
          refine wk_cV0 (q := 94) dX6_lies_91 rfl vl_X6_145 ⟨_, _, rfl⟩ hX.t4.1.ob (ct_eveT h3 t1 (lieC_ok t2 g k).1 sC (fun g' g0 g1 => by rw [y1 _ _ (by omega)]; exact j4 g' g0 g1) t3.ok (by rw [y1 _ _ (by omega)]; exact j3.trans t2.2.2.2.1.symm)) (qRo_m ok_X4_evening (by decide) (Nat.le_refl _) (Nat.le_refl _)) (Nat.le_of_ble_eq_true rfl) (fun I91 L91 R91 hv91 => ?_)
          obtain ⟨rfl, rfl, h4, z1, z2⟩ := hv91
          have hX := h4.1
          have ez : I91 (x + 68 + 36) g = lieG V g k := (z2.2.2.1.2 g hgg.1 hgg.2).2.1
          have zf : frO I I91 x 167 := fun b i q => by rw [z1 b i (by omega), fy b i (by omega), j1 b i (by omega)]; exact f1 b i q
          have zr : frO R (up R1 (x + 68) 0 o) x 167 := fun b i q => by rw [up_na _ _ _ _ (by omega)]; exact f2 b i q
          refine wk_aload_n (i := 0) (q := 95) dX6_lies_94 rfl rfl rfl ?_
          refine wk_getR (fi := 4) (q := 98) dX6_lies_95 rfl fl_X6_34 rfl rfl hX.ob hX.r4 ?_
          refine wk_getR (fi := 11) (q := 101) dX6_lies_98 rfl fl_X6_160 rfl rfl hX.t4.1.ob hX.t4.1.r11 ?_
          refine wk_iload_n (i := 1) (q := 102) dX6_lies_101 rfl rfl rfl ?_
          refine wk_iald (q := 103) dX6_lies_102 rfl hX.t4.1.s11 (by omega) ?_
          refine wk_iload_n (i := 3) (q := 104) dX6_lies_103 rfl rfl rfl ?_
          rw [ez]
          refine wk_icmp_le (t := 121) (q := 107) dX6_lies_104 rfl rfl (by omega) (by omega) (fun hc104 => ?_) (fun hc104 => ?_)
          · refine wk_iinc (lo' := [(0, _), (1, _), (2, _), (3, _), (4, _), (5, _)]) (q := 124) dX6_lies_121 rfl rfl (by decide) rfl ?_
            refine wk_goto (t := 41) dX6_lies_124 rfl ?_
            first
            | exact stay (fun q => hv60 q.1) _ _ hh f1 f2
            | exact stay (fun q => by rw [ez] at hc104; omega) _ _ h4 zf zr
            | exact stay (fun q => by omega) _ _ h4 zf zr
            | exact take hv60 (by omega) _ _ h4 zf zr
            | exact take hv60 (by rw [← ez]; omega) _ _ h4 zf zr
          · refine wk_aload_n (i := 0) (q := 108) dX6_lies_107 rfl rfl rfl ?_
            refine wk_getR (fi := 4) (q := 111) dX6_lies_108 rfl fl_X6_34 rfl rfl hX.ob hX.r4 ?_
            refine wk_getR (fi := 11) (q := 114) dX6_lies_111 rfl fl_X6_160 rfl rfl hX.t4.1.ob hX.t4.1.r11 ?_
            refine wk_iload_n (i := 1) (q := 115) dX6_lies_114 rfl rfl rfl ?_
            refine wk_iald (q := 116) dX6_lies_115 rfl hX.t4.1.s11 (by omega) ?_
            rw [ez]
            refine wk_istore_n (i := 3) (lo' := [(0, _), (1, _), (2, _), (3, _), (4, _), (5, _)]) (q := 117) dX6_lies_116 rfl rfl (by decide) rfl ?_
            refine wk_iload (i := 5) (q := 119) dX6_lies_117 rfl rfl ?_
            refine wk_istore (i := 4) (lo' := [(0, _), (1, _), (2, _), (3, _), (4, _), (5, _)]) (q := 121) dX6_lies_119 rfl (by decide) rfl ?_
            refine wk_iinc (lo' := [(0, _), (1, _), (2, _), (3, _), (4, _), (5, _)]) (q := 124) dX6_lies_121 rfl rfl (by decide) rfl ?_
            refine wk_goto (t := 41) dX6_lies_124 rfl ?_
            first
            | exact stay (fun q => hv60 q.1) _ _ hh f1 f2
            | exact stay (fun q => by rw [ez] at hc104; omega) _ _ h4 zf zr
            | exact stay (fun q => by omega) _ _ h4 zf zr
            | exact take hv60 (by omega) _ _ h4 zf zr
            | exact take hv60 (by rw [← ez]; omega) _ _ h4 zf zr
        · rw [ek] at hv60
          refine wk_if_eq (t := 121) (q := 66) dX6_lies_63 rfl rfl (by omega) (fun _ => ?_) (fun hq => absurd hq (by decide))
          refine wk_iinc (lo' := [(0, _), (1, _), (2, _), (3, _), (4, _), (5, _)]) (q := 124) dX6_lies_121 rfl rfl (by decide) rfl ?_
          refine wk_goto (t := 41) dX6_lies_124 rfl ?_
          first
          | exact stay (fun q => hv60 q.1) _ _ hh f1 f2
          | exact stay (fun q => by rw [ez] at hc104; omega) _ _ h4 zf zr
          | exact stay (fun q => by omega) _ _ h4 zf zr
          | exact take hv60 (by omega) _ _ h4 zf zr
          | exact take hv60 (by rw [← ez]; omega) _ _ h4 zf zr
  refine Ct.of (lo := [(0, _), (1, _), (2, _)]) ok_X6_lies (Nat.le_of_ble_eq_true rfl) rfl ?_
  refine wk_aload_n (i := 0) (q := 1) dX6_lies_0 rfl rfl rfl ?_
  refine wk_iload_n (i := 1) (q := 2) dX6_lies_1 rfl rfl rfl ?_
  refine wk_cP1 (q := 5) dX6_lies_2 rfl vl_X6_102 ⟨_, _, rfl⟩ hX.ob (ct_X6_isGuest hX hg (by omega)) (qRo_m ok_X6_isGuest (by decide) (Nat.le_refl _) (Nat.le_refl _)) (Nat.le_of_ble_eq_true rfl) (fun v2 hv2 => ?_)
  rcases hv2 with ⟨rfl, hv2⟩ | ⟨rfl, hv2⟩
  · rw [e7] at hv2
    refine wk_if_ne (t := 10) (q := 8) dX6_lies_5 rfl rfl (by omega) (fun _ => ?_) (fun hq => absurd hq (by decide))
    refine wk_iload_n (i := 2) (q := 11) dX6_lies_10 rfl rfl rfl ?_
    refine wk_sP1 (q := 14) dX6_lies_11 rfl sl_X6_163 (ct_X6_isOneOfTwo hw) (qRo_m ok_X6_isOneOfTwo (by decide) (Nat.le_refl _) (Nat.le_refl _)) (Nat.le_of_ble_eq_true rfl) (fun v11 hv11 => ?_)
    rcases hv11 with ⟨rfl, hv11⟩ | ⟨rfl, hv11⟩
    · refine wk_if_ne (t := 20) (q := 17) dX6_lies_14 rfl rfl (by omega) (fun _ => ?_) (fun hq => absurd hq (by decide))
      refine wk_aload_n (i := 0) (q := 21) dX6_lies_20 rfl rfl rfl ?_
      refine wk_cV0 (q := 24) dX6_lies_21 rfl vl_X6_154 ⟨_, _, rfl⟩ hX.ob (ct_X6_tryEvening hh (by omega)) (qRo_m ok_X6_tryEvening (by decide) (Nat.le_refl _) (Nat.le_refl _)) (Nat.le_of_ble_eq_true rfl) (fun I21 L21 R21 hv21 => ?_)
      obtain ⟨rfl, rfl, h2, f1, f2, f3⟩ := hv21
      have hX := h2.1
      have ez : I21 (x + 68 + 36) g = (lieF V g 0).1 := (f2.2 g hv2.1 hv2.2).2.1
      refine wk_aload_n (i := 0) (q := 25) dX6_lies_24 rfl rfl rfl ?_
      refine wk_getR (fi := 4) (q := 28) dX6_lies_25 rfl fl_X6_34 rfl rfl hX.ob hX.r4 ?_
      refine wk_getR (fi := 11) (q := 31) dX6_lies_28 rfl fl_X6_160 rfl rfl hX.t4.1.ob hX.t4.1.r11 ?_
      refine wk_iload_n (i := 1) (q := 32) dX6_lies_31 rfl rfl rfl ?_
      refine wk_iald (q := 33) dX6_lies_32 rfl hX.t4.1.s11 (by omega) ?_
      rw [ez]
      refine wk_istore_n (i := 3) (lo' := [(0, _), (1, _), (2, _), (3, _)]) (q := 34) dX6_lies_33 rfl rfl (by decide) rfl ?_
      refine wk_bipush (q := 36) dX6_lies_34 rfl (by decide +kernel) ?_
      refine wk_istore (i := 4) (lo' := [(0, _), (1, _), (2, _), (3, _), (4, _)]) (q := 38) dX6_lies_36 rfl (by decide) rfl ?_
      refine wk_iconst (q := 39) dX6_lies_38 rfl ?_
      refine wk_istore (i := 5) (lo' := [(0, _), (1, _), (2, _), (3, _), (4, _), (5, _)]) (q := 41) dX6_lies_39 rfl (by decide) rfl ?_
      exact loop hv2 hv11 0 (Nat.zero_le _) _ _ h2 (fun b i q => f1 b i (by omega)) (fun b i q => up_na _ _ _ _ (by omega))
    · refine wk_if_ne (t := 20) (q := 17) dX6_lies_14 rfl rfl (by omega) (fun hq => absurd hq (by decide)) (fun _ => ?_)
      refine wk_bipush (q := 19) dX6_lies_17 rfl (by decide +kernel) ?_
      refine wk_iret dX6_lies_19 rfl ⟨Nat.le_refl _, Nat.le_refl _⟩ rfl ?_
      refine cp_same h rfl ?_
      unfold r_lies
      first
        | rw [if_pos hv2]
        | rw [if_neg (fun q => q hv2), if_pos hv11]
  · rw [e7] at hv2
    refine wk_if_ne (t := 10) (q := 8) dX6_lies_5 rfl rfl (by omega) (fun hq => absurd hq (by decide)) (fun _ => ?_)
    refine wk_iconst (q := 9) dX6_lies_8 rfl ?_
    refine wk_iret dX6_lies_9 rfl ⟨Nat.le_refl _, Nat.le_refl _⟩ rfl ?_
    refine cp_same h rfl ?_
    unfold r_lies
    first
      | rw [if_pos hv2]
      | rw [if_neg (fun q => q hv2), if_pos hv11]
end LIES
