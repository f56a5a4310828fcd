/-! the chair -/
section CHAIR
variable {l : Launch} {E : qEv} {n : Nat} {sh : qSh} {I L : qI} {R : qR}
theorem oc_chair {x : Nat} {V : VV} {g : Int} (h : CI E.2.2 n sh x I L R V) (hg : in32 g) :
    Ct l E 5 mX6_chair [.ref x, .int (zI g)] (n, sh, I, L, R) 0 0 (qJ n sh (cpZ E.2.2 n sh x I R (r_chair V g) V)) := by
  obtain ⟨o, dr, u1', u2', u3', hh⟩ := id h
  obtain ⟨hX, hod, hok, h10, h11, h12, hS, hT, hB, hC⟩ := id hh
  have hng := hok.ng
  have e7 := hT.1.2.1
  refine Ct.of (lo := [(0, _), (1, _)]) ok_X6_chair (Nat.le_of_ble_eq_true rfl) rfl ?_
  refine wk_aload_n (i := 0) (q := 1) dX6_chair_0 rfl rfl rfl ?_
  refine wk_iload_n (i := 1) (q := 2) dX6_chair_1 rfl rfl rfl ?_
  refine wk_cP1 (q := 5) dX6_chair_2 rfl vl_X6_102 ⟨_, _, rfl⟩ hX.ob (ct_X6_isGuest hX hg (by omega)) (qRo_m ok_X6_isGuest (by decide) (Nat.le_refl _) (Nat.le_refl _)) (Nat.le_of_ble_eq_true rfl) (fun v2 hv2 => ?_)
  rcases hv2 with ⟨rfl, hv2⟩ | ⟨rfl, hv2⟩
  · rw [e7] at hv2
    refine wk_if_eq (t := 38) (q := 8) dX6_chair_5 rfl rfl (by omega) (fun hq => absurd hq (by decide)) (fun _ => ?_)
    refine wk_aload_n (i := 0) (q := 9) dX6_chair_8 rfl rfl rfl ?_
    refine wk_getR (fi := 1) (q := 12) dX6_chair_9 rfl fl_X6_20 rfl rfl hX.ob hX.r1 ?_
    refine wk_getI (fi := 7) (q := 15) dX6_chair_12 rfl fl_X6_88 rfl rfl hX.o1.ob ?_
    refine wk_iconst (q := 16) dX6_chair_15 rfl ?_
    rw [e7]
    refine wk_icmp_lt (t := 38) (q := 19) dX6_chair_16 rfl rfl (by omega) (by omega) (fun hc16 => ?_) (fun hc16 => ?_)
    · refine wk_ldc2 (z := (-9223372036854775808)) (q := 41) dX6_chair_38 rfl (v := (-9223372036854775808)) (qtb_in 547 (by decide +kernel) (by decide +kernel)) rfl ?_
      refine wk_lret dX6_chair_41 rfl ⟨Nat.le_refl _, Nat.le_refl _⟩ rfl ?_
      refine cp_sameJ h rfl ?_
      unfold r_chair
      first
        | rw [if_neg (fun q => hv2 q.1)]
        | rw [if_neg (by omega)]
    · refine wk_aload_n (i := 0) (q := 20) dX6_chair_19 rfl rfl rfl ?_
      refine wk_getR (fi := 3) (q := 23) dX6_chair_20 rfl fl_X6_30 rfl rfl hX.ob hX.r3 ?_
      refine wk_getI (fi := 6) (q := 26) dX6_chair_23 rfl fl_X6_135 rfl rfl hX.t3.1.ob ?_
      refine wk_aload_n (i := 0) (q := 27) dX6_chair_26 rfl rfl rfl ?_
      refine wk_getR (fi := 1) (q := 30) dX6_chair_27 rfl fl_X6_20 rfl rfl hX.ob hX.r1 ?_
      refine wk_getI (fi := 7) (q := 33) dX6_chair_30 rfl fl_X6_88 rfl rfl hX.o1.ob ?_
      refine wk_iconst (q := 34) dX6_chair_33 rfl ?_
      refine wk_isub (q := 35) dX6_chair_34 rfl ?_
      obtain ⟨t1, t2, t3, t4, t5, t6, t7⟩ := hh.full (by omega)
      have b1 := t2.1.2.2.1
      have b2 := t2.1.2.2.2.1
      rw [t5.2.1, e7]
      refine wk_icmp_lt (t := 42) (q := 38) dX6_chair_35 rfl rfl (by omega) (by omega) (fun hc35 => ?_) (fun hc35 => ?_)
      · refine wk_aload_n (i := 0) (q := 43) dX6_chair_42 rfl rfl rfl ?_
        refine wk_cV0 (q := 46) dX6_chair_43 rfl vl_X6_154 ⟨_, _, rfl⟩ hX.ob (ct_X6_tryEvening hh (by omega)) (qRo_m ok_X6_tryEvening (by decide) (Nat.le_refl _) (Nat.le_refl _)) (Nat.le_of_ble_eq_true rfl) (fun I43 L43 R43 hv43 => ?_)
        obtain ⟨rfl, rfl, h2, f1, f2, f3⟩ := hv43
        have hX := h2.1
        have ez : I43 (x + 68 + 36) g = (evV V).gl g := (f2.2 g hv2.1 hv2.2).2.1
        have g1 : 0 ≤ sumI (evV V).gl V.T.ng.toNat ∧ sumI (evV V).gl V.T.ng.toNat ≤ 9576 := gl_sum t1 t2.1
        have g2 : 0 ≤ (evV V).gl g ∧ (evV V).gl g ≤ 1368 := evE_gl t1 t2.1 hv2.1 hv2.2
        have hC' := chC_ok hok hv2.1 hv2.2 (by omega)
        have g3 := gl_sum t1 hC' (la := V.la)
        have hs := seatI_ok hok hv2.1 hv2.2
        refine wk_aload_n (i := 0) (q := 47) dX6_chair_46 rfl rfl rfl ?_
        refine wk_getR (fi := 4) (q := 50) dX6_chair_47 rfl fl_X6_34 rfl rfl hX.ob hX.r4 ?_
        refine wk_cP0 (q := 53) dX6_chair_50 rfl vl_X6_148 ⟨_, _, rfl⟩ hX.t4.1.ob (ct_gladT h2 f2) (qRo_m ok_X4_gladInAll (by decide) (Nat.le_refl _) (Nat.le_refl _)) (Nat.le_of_ble_eq_true rfl) (fun v50 hv50 => ?_)
        subst hv50
        refine wk_aload_n (i := 0) (q := 54) dX6_chair_53 rfl rfl rfl ?_
        refine wk_getR (fi := 4) (q := 57) dX6_chair_54 rfl fl_X6_34 rfl rfl hX.ob hX.r4 ?_
        refine wk_getR (fi := 11) (q := 60) dX6_chair_57 rfl fl_X6_160 rfl rfl hX.t4.1.ob hX.t4.1.r11 ?_
        refine wk_iload_n (i := 1) (q := 61) dX6_chair_60 rfl rfl rfl ?_
        refine wk_iald (q := 62) dX6_chair_61 rfl hX.t4.1.s11 (by omega) ?_
        rw [ez]
        refine wk_isub (q := 63) dX6_chair_62 rfl ?_
        refine wk_istore_n (i := 2) (lo' := [(0, _), (1, _), (2, _)]) (q := 64) dX6_chair_63 rfl rfl (by decide) rfl ?_
        refine wk_aload_n (i := 0) (q := 65) dX6_chair_64 rfl rfl rfl ?_
        refine wk_getR (fi := 4) (q := 68) dX6_chair_65 rfl fl_X6_34 rfl rfl hX.ob hX.r4 ?_
        refine wk_aload_n (i := 0) (q := 69) dX6_chair_68 rfl rfl rfl ?_
        refine wk_getR (fi := 3) (q := 72) dX6_chair_69 rfl fl_X6_30 rfl rfl hX.ob hX.r3 ?_
        refine wk_cV1 (q := 75) dX6_chair_72 rfl vl_X6_198 ⟨_, _, rfl⟩ hX.t4.1.ob (ct_tri h2 (by omega)) (qRo_m ok_X4_become (by decide) (Nat.le_refl _) (Nat.le_refl _)) (Nat.le_of_ble_eq_true rfl) (fun I72 L72 R72 hv72 => ?_)
        obtain ⟨rfl, rfl, h3, j1, j2, j3, j4⟩ := hv72
        have hX := h3.1
        have oe : ∀ s, 0 ≤ s → s < V.T.ng → I72 (x + 68 + 15) s = V.C.od s := fun s s0 s1 => j2.2.2.2.1 s s0 (by rw [t2.2.1]; exact s1)
        refine wk_aload_n (i := 0) (q := 76) dX6_chair_75 rfl rfl rfl ?_
        refine wk_getR (fi := 4) (q := 79) dX6_chair_76 rfl fl_X6_34 rfl rfl hX.ob hX.r4 ?_
        refine wk_iload_n (i := 1) (q := 80) dX6_chair_79 rfl rfl rfl ?_
        refine wk_cV1 (q := 83) dX6_chair_80 rfl vl_X6_242 ⟨_, _, rfl⟩ hX.t4.1.ob (ct_X4_takeAway hX.t4 (j2.1.trans t2.2.1) (by omega) hg (fun s s0 s1 => by rw [oe s s0 s1]; have := od_in t2.1 s0 (by rw [t2.2.1]; exact s1); omega) ⟨hs.1, hs.2.1⟩ (fun s s0 s1 => by rw [oe s s0 s1]; exact hs.2.2 s s0 s1)) (qRo_m ok_X4_takeAway (by decide) (Nat.le_refl _) (Nat.le_refl _)) (Nat.le_of_ble_eq_true rfl) (fun I80 L80 R80 hv80 => ?_)
        obtain ⟨rfl, rfl, y1, y2, y3⟩ := hv80
        have fy : ∀ b i, ¬ (x + 68 ≤ b ∧ b < x + 106) → I80 b i = I72 b i := fun b i q => y1 b i (by omega) (by omega)
        have h4 := h3.scr (I' := I80) h3.1 ⟨rfl, rfl, rfl, rfl, rfl, rfl, rfl⟩ (fun b i q1 q2 => fy b i (by omega)) (by rw [fy _ _ (by omega)]; exact h3.2.2.2.1) (by rw [fy _ _ (by omega)]; exact h3.2.2.2.2.1) (by rw [fy _ _ (by omega)]; exact h3.2.2.2.2.2.1)
        have e5 : I72 (x + 68) 5 = V.T.ng := j2.1.trans t2.2.1
        have sC : shC I80 (x + 68) V.T (chC V g) := by
          obtain ⟨b1, b2, b3, b4, b5⟩ := j2
          refine ⟨by rw [y2, b1]; rfl, by rw [y1 _ _ (by omega) (by omega)]; exact b2, by rw [y1 _ _ (by omega) (by omega)]; exact b3, fun s s0 s1 => ?_, fun a a0 a1 => ⟨by rw [y1 _ _ (by omega) (by omega)]; exact (b5 a a0 a1).1, fun b b0 b1' => by rw [y1 _ _ (by omega) (by omega)]; exact (b5 a a0 a1).2 b b0 b1'⟩⟩
          have s1' : s < V.C.se - 1 := s1
          rw [y3 s s0 (by have := t2.2.1; omega)]
          show _ = if s < seatI V g then V.C.od s else V.C.od (s + 1)
          split
          · exact oe s s0 (by have := t2.2.1; omega)
          · exact oe (s + 1) (by omega) (by have := t2.2.1; omega)
        refine wk_aload_n (i := 0) (q := 84) dX6_chair_83 rfl rfl rfl ?_
        refine wk_getR (fi := 4) (q := 87) dX6_chair_84 rfl fl_X6_34 rfl rfl hX.ob hX.r4 ?_
        refine wk_cV0 (q := 90) dX6_chair_87 rfl vl_X6_145 ⟨_, _, rfl⟩ hX.t4.1.ob (ct_eveT h4 t1 hC' sC (fun g' g0 g1 => by rw [y1 _ _ (by omega) (by omega)]; exact j4 g' g0 g1) t3.ok (by rw [y1 _ _ (by omega) (by omega)]; exact j3.trans t2.2.2.2.1.symm)) (qRo_m ok_X4_evening (by decide) (Nat.le_refl _) (Nat.le_refl _)) (Nat.le_of_ble_eq_true rfl) (fun I87 L87 R87 hv87 => ?_)
        obtain ⟨rfl, rfl, h5, z1, z2⟩ := hv87
        have hX := h5.1
        refine wk_aload_n (i := 0) (q := 91) dX6_chair_90 rfl rfl rfl ?_
        refine wk_getR (fi := 4) (q := 94) dX6_chair_91 rfl fl_X6_34 rfl rfl hX.ob hX.r4 ?_
        refine wk_cP0 (q := 97) dX6_chair_94 rfl vl_X6_148 ⟨_, _, rfl⟩ hX.t4.1.ob (ct_gladT h5 z2.2.2.1) (qRo_m ok_X4_gladInAll (by decide) (Nat.le_refl _) (Nat.le_refl _)) (Nat.le_of_ble_eq_true rfl) (fun v94 hv94 => ?_)
        subst hv94
        refine wk_iload_n (i := 2) (q := 98) dX6_chair_97 rfl rfl rfl ?_
        refine wk_isub (q := 99) dX6_chair_98 rfl ?_
        refine wk_i2l (q := 100) dX6_chair_99 rfl (by omega) ?_
        refine wk_lret dX6_chair_100 rfl ⟨Nat.le_refl _, Nat.le_refl _⟩ rfl ?_
        refine ⟨_, _, _, _, rfl, rfl, ?_, h5.ci, fun b i q => by rw [z1 b i (by omega), fy b i (by omega), j1 b i (by omega), f1 b i (by omega)], fun b i q => by rw [up_na _ _ _ _ (by omega), up_na _ _ _ _ (by omega)]⟩
        unfold r_chair
        rw [if_pos (by omega)]
      · refine wk_ldc2 (z := (-9223372036854775808)) (q := 41) dX6_chair_38 rfl (v := (-9223372036854775808)) (qtb_in 547 (by decide +kernel) (by decide +kernel)) rfl ?_
        refine wk_lret dX6_chair_41 rfl ⟨Nat.le_refl _, Nat.le_refl _⟩ rfl ?_
        refine cp_sameJ h rfl ?_
        unfold r_chair
        first
          | rw [if_neg (fun q => hv2 q.1)]
          | rw [if_neg (by omega)]
  · rw [e7] at hv2
    refine wk_if_eq (t := 38) (q := 8) dX6_chair_5 rfl rfl (by omega) (fun _ => ?_) (fun hq => absurd hq (by decide))
    refine wk_ldc2 (z := (-9223372036854775808)) (q := 41) dX6_chair_38 rfl (v := (-9223372036854775808)) (qtb_in 547 (by decide +kernel) (by decide +kernel)) rfl ?_
    refine wk_lret dX6_chair_41 rfl ⟨Nat.le_refl _, Nat.le_refl _⟩ rfl ?_
    refine cp_sameJ h rfl ?_
    unfold r_chair
    first
      | rw [if_neg (fun q => hv2 q.1)]
      | rw [if_neg (by omega)]
theorem om_chair {m : Nat} {V : VV} {g : Int} (hM : qMod E.2.2 n sh R m) (h : MI I m V) (hg : in32 g) :
    Ct l E 5 mX7_chair [.ref m, .int (zI g)] (n, sh, I, L, R) 0 0 (qJ n sh (mpZ m I L R (r_chair V g) V)) := by
  have hng := h.1.ng
  have e5 := h.2.2.2.2.2.1.1
  have loop : (0 ≤ g ∧ g < V.T.ng) → 3 ≤ V.T.ng → V.C.st < V.T.ng - 1 → ∀ I0 : qI, MI I0 m V → frO I I0 m 36 → layP I0 I0 m V → ∀ k : Nat, k ≤ V.T.ng.toNat → ∀ I1 : qI, (∀ b i, ¬ (b = m ∧ i = 28) → b ≠ m + 19 → I1 b i = I0 b i) → I1 m 28 = (if seatI V g < k then (k : Int) - 1 else k) → (∀ s : Int, 0 ≤ s → s < (if seatI V g < k then (k : Int) - 1 else k) → I1 (m + 19) s = if s < seatI V g then V.C.od s else V.C.od (s + 1)) →
      Wk l E (qmo E 5 n 0 0 (qJ n sh (mpZ m I L R (r_chair V g) V))) mX7_chair 0 0 64
      [(0, .ref m), (1, .int (zI g)), (2, .int (zI (sumI (evV V).gl V.T.ng.toNat - (evV V).gl g))), (3, .int (zI (k : Int)))] [] (n, sh, I1, L, R) := by
    intro hgg h3 hst I0 h0 f0 l0
    obtain ⟨t1, t2, t3⟩ := h.1.tab (by omega)
    have hC' := chC_ok h.1 hgg.1 hgg.2 h3
    have g1 : 0 ≤ sumI (evV V).gl V.T.ng.toNat ∧ sumI (evV V).gl V.T.ng.toNat ≤ 9576 := gl_sum t1 t2.1
    have g2 : 0 ≤ (evV V).gl g ∧ (evV V).gl g ≤ 1368 := evE_gl t1 t2.1 hgg.1 hgg.2
    have g3 := gl_sum t1 hC' (la := V.la)
    have g4 := evE_sum hC' (la := V.la)
    obtain ⟨s1, s2, s3⟩ := h0.seat hgg.1 hgg.2
    have od0 := (h0.2.2.2.2.2.2 (by omega)).2.2.1
    refine up_ind V.T.ng.toNat ?_ ?_
    · rintro I1 f1 f2 f3
      rw [if_pos (by omega)] at f2 f3
      have fn : frN I0 I1 m := fun b i q0 q1 => f1 b i (by omega) (by omega)
      have h1 := h0.fn fn
      have e5' := h1.2.2.2.2.2.1.1
      have mC' : mC I1 m V.T (chC V g) := by
        obtain ⟨b1, b2, b3, b4, b5⟩ := l0.2.1
        refine ⟨?_, by rw [f1 _ _ (by omega) (by omega)]; exact b2, by rw [f1 _ _ (by omega) (by omega)]; exact b3, fun s s0 s1' => ?_, fun a a0 a1 => ⟨by rw [f1 _ _ (by omega) (by omega)]; exact (b5 a a0 a1).1, fun b b0 b1' w => by rw [f1 _ _ (by omega) (by omega)]; exact (b5 a a0 a1).2 b b0 b1' w⟩⟩
        · rw [f2]
          show _ = V.C.se - 1
          rw [t2.2.1]
          omega
        · have q : s < V.C.se - 1 := s1'
          rw [t2.2.1] at q
          exact f3 s s0 (by omega)
      have spE : mS (chC V g) = -9 := by
        unfold mS
        rw [show (chC V g).sp = V.C.sp from rfl, t2.2.2.2.1, if_pos (by omega)]
      refine wk_iload_n (i := 3) (q := 65) dX7_chair_64 rfl rfl rfl ?_
      refine wk_aload_n (i := 0) (q := 66) dX7_chair_65 rfl rfl rfl ?_
      refine wk_getI (fi := 5) (q := 69) dX7_chair_66 rfl fl_X7_125 rfl rfl hM.ob ?_
      refine wk_icmp_ge (t := 113) (q := 72) dX7_chair_69 rfl rfl (by omega) (by omega) (fun hc69 => ?_) (fun hc69 => ?_)
      · refine wk_aload_n (i := 0) (q := 114) dX7_chair_113 rfl rfl rfl ?_
        refine wk_cV0 (q := 117) dX7_chair_114 rfl vl_X7_227 ⟨_, _, rfl⟩ hM.ob (ct_nightC hM t1 hC' h1.2.2.2.2.2.1 mC' (fun g' q0 q1 => by rw [f1 _ _ (by omega) (by omega)]; exact l0.2.2.1 g' q0 q1) t3.ok (by rw [f1 _ _ (by omega) (by omega), spE]; exact l0.2.2.2)) (qRo_m ok_X7_goNight (by decide) (Nat.le_refl _) (Nat.le_refl _)) (Nat.le_of_ble_eq_true rfl) (fun I114 L114 R114 hv114 => ?_)
        obtain ⟨rfl, rfl, k1, k2, k3⟩ := hv114
        refine wk_aload_n (i := 0) (q := 118) dX7_chair_117 rfl rfl rfl ?_
        refine wk_cP0 (q := 121) dX7_chair_118 rfl vl_X7_230 ⟨_, _, rfl⟩ hM.ob (ct_allV (e := evE V.T (chC V g) V.la) hM t1 hC' k2 k3.2.2.2.1) (qRo_m ok_X7_allGlad (by decide) (Nat.le_refl _) (Nat.le_refl _)) (Nat.le_of_ble_eq_true rfl) (fun v118 hv118 => ?_)
        rw [g4] at hv118
        subst hv118
        refine wk_iload_n (i := 2) (q := 122) dX7_chair_121 rfl rfl rfl ?_
        refine wk_isub (q := 123) dX7_chair_122 rfl ?_
        refine wk_i2l (q := 124) dX7_chair_123 rfl (by omega) ?_
        refine wk_lret dX7_chair_124 rfl ⟨Nat.le_refl _, Nat.le_refl _⟩ rfl ?_
        refine ⟨_, _, _, _, rfl, rfl, ?_, h1.fn k1, f0.tr (fn.tr k1).o, rfl, rfl⟩
        unfold r_chair
        rw [if_pos ⟨hgg, h3, hst⟩]
      · omega
    · rintro k hk ih I1 f1 f2 f3
      have e5' : I1 m 5 = V.T.ng := by rw [f1 _ _ (by omega) (by omega)]; exact h0.2.2.2.2.2.1.1
      have ek : I1 (m + 11) k = I0 (m + 11) k := f1 _ _ (by omega) (by omega)
      have sk := s3 k (by omega) (by omega)
      have bk := s2 k (by omega) (by omega)
      have ok0 := od0 k (by omega) (by omega)
      by_cases hq : seatI V g < k
      · rw [if_pos hq] at f2 f3
        have hne : ¬ I0 (m + 11) k = g := fun z => by have := sk.mp z; omega
        have ih' := ih (up (up I1 (m + 19) ((k : Int) - 1) (I0 (m + 11) k)) m 28 (((k : Int) - 1) + 1)) (fun b i q0 q1 => by rw [up_off q0, up_na _ _ _ _ q1]; exact f1 b i q0 q1) (by rw [up_eq, if_pos (by omega)]; omega) (fun s s0 s1' => by
          rw [if_pos (by omega)] at s1'
          rw [up_na _ _ _ _ (by omega)]
          by_cases hz : s = (k : Int) - 1
          · rw [hz, up_eq, if_neg (by omega), ok0, show (k : Int) - 1 + 1 = k by omega]
          · rw [up_ni _ _ hz]
            exact f3 s s0 (by omega))
        refine wk_iload_n (i := 3) (q := 65) dX7_chair_64 rfl rfl rfl ?_
        refine wk_aload_n (i := 0) (q := 66) dX7_chair_65 rfl rfl rfl ?_
        refine wk_getI (fi := 5) (q := 69) dX7_chair_66 rfl fl_X7_125 rfl rfl hM.ob ?_
        refine wk_icmp_ge (t := 113) (q := 72) dX7_chair_69 rfl rfl (by omega) (by omega) (fun hc69 => ?_) (fun hc69 => ?_)
        · omega
        · refine wk_aload_n (i := 0) (q := 73) dX7_chair_72 rfl rfl rfl ?_
          refine wk_getR (fi := 14) (q := 76) dX7_chair_73 rfl fl_X7_40 rfl rfl hM.ob hM.r14 ?_
          refine wk_iload_n (i := 3) (q := 77) dX7_chair_76 rfl rfl rfl ?_
          refine wk_iald (q := 78) dX7_chair_77 rfl hM.s14 (by omega) ?_
          refine wk_iload_n (i := 1) (q := 79) dX7_chair_78 rfl rfl rfl ?_
          rw [ek]
          refine wk_icmp_eq (t := 107) (q := 82) dX7_chair_79 rfl rfl (by omega) (by omega) (fun hc79 => ?_) (fun hc79 => ?_)
          · refine wk_iinc (lo' := [(0, _), (1, _), (2, _), (3, _)]) (q := 110) dX7_chair_107 rfl rfl (by decide) rfl ?_
            refine wk_goto (t := 64) dX7_chair_110 rfl ?_
            first
            | exact absurd hc79 hne
            | exact ih'
          · refine wk_aload_n (i := 0) (q := 83) dX7_chair_82 rfl rfl rfl ?_
            refine wk_getR (fi := 29) (q := 86) dX7_chair_83 rfl fl_X7_64 rfl rfl hM.ob hM.r29 ?_
            refine wk_aload_n (i := 0) (q := 87) dX7_chair_86 rfl rfl rfl ?_
            refine wk_getI (fi := 28) (q := 90) dX7_chair_87 rfl fl_X7_194 rfl rfl hM.ob ?_
            refine wk_aload_n (i := 0) (q := 91) dX7_chair_90 rfl rfl rfl ?_
            refine wk_getR (fi := 14) (q := 94) dX7_chair_91 rfl fl_X7_40 rfl rfl hM.ob hM.r14 ?_
            refine wk_iload_n (i := 3) (q := 95) dX7_chair_94 rfl rfl rfl ?_
            refine wk_iald (q := 96) dX7_chair_95 rfl hM.s14 (by omega) ?_
            rw [ek, f2]
            refine wk_iast (q := 97) dX7_chair_96 rfl hM.s29 (by omega) ?_
            refine wk_aload_n (i := 0) (q := 98) dX7_chair_97 rfl rfl rfl ?_
            refine wk_dup (q := 99) dX7_chair_98 rfl rfl ?_
            refine wk_getI (fi := 28) (q := 102) dX7_chair_99 rfl fl_X7_194 rfl rfl hM.ob ?_
            refine wk_iconst (q := 103) dX7_chair_102 rfl ?_
            rw [up_na _ _ _ _ (by omega), f2]
            refine wk_iadd (q := 104) dX7_chair_103 rfl ?_
            refine wk_putI (fi := 28) (q := 107) dX7_chair_104 rfl fl_X7_194 fw_7_28 rfl rfl hM.ob ?_
            refine wk_iinc (lo' := [(0, _), (1, _), (2, _), (3, _)]) (q := 110) dX7_chair_107 rfl rfl (by decide) rfl ?_
            refine wk_goto (t := 64) dX7_chair_110 rfl ?_
            first
            | exact absurd hc79 hne
            | exact ih'
      · rw [if_neg hq] at f2 f3
        by_cases he : seatI V g = k
        · have hI : I0 (m + 11) k = g := sk.mpr he.symm
          have ih' := ih I1 f1 (by rw [f2, if_pos (by omega)]; omega) (fun s s0 s1' => by
            rw [if_pos (by omega)] at s1'
            exact f3 s s0 (by omega))
          refine wk_iload_n (i := 3) (q := 65) dX7_chair_64 rfl rfl rfl ?_
          refine wk_aload_n (i := 0) (q := 66) dX7_chair_65 rfl rfl rfl ?_
          refine wk_getI (fi := 5) (q := 69) dX7_chair_66 rfl fl_X7_125 rfl rfl hM.ob ?_
          refine wk_icmp_ge (t := 113) (q := 72) dX7_chair_69 rfl rfl (by omega) (by omega) (fun hc69 => ?_) (fun hc69 => ?_)
          · omega
          · refine wk_aload_n (i := 0) (q := 73) dX7_chair_72 rfl rfl rfl ?_
            refine wk_getR (fi := 14) (q := 76) dX7_chair_73 rfl fl_X7_40 rfl rfl hM.ob hM.r14 ?_
            refine wk_iload_n (i := 3) (q := 77) dX7_chair_76 rfl rfl rfl ?_
            refine wk_iald (q := 78) dX7_chair_77 rfl hM.s14 (by omega) ?_
            refine wk_iload_n (i := 1) (q := 79) dX7_chair_78 rfl rfl rfl ?_
            rw [ek]
            refine wk_icmp_eq (t := 107) (q := 82) dX7_chair_79 rfl rfl (by omega) (by omega) (fun hc79 => ?_) (fun hc79 => ?_)
            · refine wk_iinc (lo' := [(0, _), (1, _), (2, _), (3, _)]) (q := 110) dX7_chair_107 rfl rfl (by decide) rfl ?_
              refine wk_goto (t := 64) dX7_chair_110 rfl ?_
              exact ih'
            · exact absurd hI hc79
        · have hne : ¬ I0 (m + 11) k = g := fun z => by have := sk.mp z; omega
          have ih' := ih (up (up I1 (m + 19) (k : Int) (I0 (m + 11) k)) m 28 ((k : Int) + 1)) (fun b i q0 q1 => by rw [up_off q0, up_na _ _ _ _ q1]; exact f1 b i q0 q1) (by rw [up_eq, if_neg (by omega)]; omega) (fun s s0 s1' => by
            rw [if_neg (by omega)] at s1'
            rw [up_na _ _ _ _ (by omega)]
            by_cases hz : s = (k : Int)
            · rw [hz, up_eq, if_pos (by omega), ok0]
            · rw [up_ni _ _ hz]
              exact f3 s s0 (by omega))
          refine wk_iload_n (i := 3) (q := 65) dX7_chair_64 rfl rfl rfl ?_
          refine wk_aload_n (i := 0) (q := 66) dX7_chair_65 rfl rfl rfl ?_
          refine wk_getI (fi := 5) (q := 69) dX7_chair_66 rfl fl_X7_125 rfl rfl hM.ob ?_
          refine wk_icmp_ge (t := 113) (q := 72) dX7_chair_69 rfl rfl (by omega) (by omega) (fun hc69 => ?_) (fun hc69 => ?_)
          · omega
          · refine wk_aload_n (i := 0) (q := 73) dX7_chair_72 rfl rfl rfl ?_
            refine wk_getR (fi := 14) (q := 76) dX7_chair_73 rfl fl_X7_40 rfl rfl hM.ob hM.r14 ?_
            refine wk_iload_n (i := 3) (q := 77) dX7_chair_76 rfl rfl rfl ?_
            refine wk_iald (q := 78) dX7_chair_77 rfl hM.s14 (by omega) ?_
            refine wk_iload_n (i := 1) (q := 79) dX7_chair_78 rfl rfl rfl ?_
            rw [ek]
            refine wk_icmp_eq (t := 107) (q := 82) dX7_chair_79 rfl rfl (by omega) (by omega) (fun hc79 => ?_) (fun hc79 => ?_)
            · refine wk_iinc (lo' := [(0, _), (1, _), (2, _), (3, _)]) (q := 110) dX7_chair_107 rfl rfl (by decide) rfl ?_
              refine wk_goto (t := 64) dX7_chair_110 rfl ?_
              first
              | exact absurd hc79 hne
              | exact ih'
            · refine wk_aload_n (i := 0) (q := 83) dX7_chair_82 rfl rfl rfl ?_
              refine wk_getR (fi := 29) (q := 86) dX7_chair_83 rfl fl_X7_64 rfl rfl hM.ob hM.r29 ?_
              refine wk_aload_n (i := 0) (q := 87) dX7_chair_86 rfl rfl rfl ?_
              refine wk_getI (fi := 28) (q := 90) dX7_chair_87 rfl fl_X7_194 rfl rfl hM.ob ?_
              refine wk_aload_n (i := 0) (q := 91) dX7_chair_90 rfl rfl rfl ?_
              refine wk_getR (fi := 14) (q := 94) dX7_chair_91 rfl fl_X7_40 rfl rfl hM.ob hM.r14 ?_
              refine wk_iload_n (i := 3) (q := 95) dX7_chair_94 rfl rfl rfl ?_
              refine wk_iald (q := 96) dX7_chair_95 rfl hM.s14 (by omega) ?_
              rw [ek, f2]
              refine wk_iast (q := 97) dX7_chair_96 rfl hM.s29 (by omega) ?_
              refine wk_aload_n (i := 0) (q := 98) dX7_chair_97 rfl rfl rfl ?_
              refine wk_dup (q := 99) dX7_chair_98 rfl rfl ?_
              refine wk_getI (fi := 28) (q := 102) dX7_chair_99 rfl fl_X7_194 rfl rfl hM.ob ?_
              refine wk_iconst (q := 103) dX7_chair_102 rfl ?_
              rw [up_na _ _ _ _ (by omega), f2]
              refine wk_iadd (q := 104) dX7_chair_103 rfl ?_
              refine wk_putI (fi := 28) (q := 107) dX7_chair_104 rfl fl_X7_194 fw_7_28 rfl rfl hM.ob ?_
              refine wk_iinc (lo' := [(0, _), (1, _), (2, _), (3, _)]) (q := 110) dX7_chair_107 rfl rfl (by decide) rfl ?_
              refine wk_goto (t := 64) dX7_chair_110 rfl ?_
              first
              | exact absurd hc79 hne
              | exact ih'
  refine Ct.of (lo := [(0, _), (1, _)]) ok_X7_chair (Nat.le_of_ble_eq_true rfl) rfl ?_
  refine wk_aload_n (i := 0) (q := 1) dX7_chair_0 rfl rfl rfl ?_
  refine wk_iload_n (i := 1) (q := 2) dX7_chair_1 rfl rfl rfl ?_
  refine wk_cP1 (q := 5) dX7_chair_2 rfl vl_X7_184 ⟨_, _, rfl⟩ hM.ob (ct_X7_isGuest hM hg (by omega)) (qRo_m ok_X7_isGuest (by decide) (Nat.le_refl _) (Nat.le_refl _)) (Nat.le_of_ble_eq_true rfl) (fun v2 hv2 => ?_)
  rcases hv2 with ⟨rfl, hv2⟩ | ⟨rfl, hv2⟩
  · rw [e5] at hv2
    refine wk_if_eq (t := 29) (q := 8) dX7_chair_5 rfl rfl (by omega) (fun hq => absurd hq (by decide)) (fun _ => ?_)
    refine wk_aload_n (i := 0) (q := 9) dX7_chair_8 rfl rfl rfl ?_
    refine wk_getI (fi := 5) (q := 12) dX7_chair_9 rfl fl_X7_125 rfl rfl hM.ob ?_
    refine wk_iconst (q := 13) dX7_chair_12 rfl ?_
    rw [e5]
    refine wk_icmp_eq (t := 29) (q := 16) dX7_chair_13 rfl rfl (by omega) (by omega) (fun hc13 => ?_) (fun hc13 => ?_)
    · refine wk_ldc2 (z := (-9223372036854775808)) (q := 32) dX7_chair_29 rfl (v := (-9223372036854775808)) (qtb_in 1088 (by decide +kernel) (by decide +kernel)) rfl ?_
      refine wk_lret dX7_chair_32 rfl ⟨Nat.le_refl _, Nat.le_refl _⟩ rfl ?_
      refine mp_sameJ h rfl ?_
      unfold r_chair
      first
        | rw [if_neg (fun q => hv2 q.1)]
        | rw [if_neg (by omega)]
    · refine wk_aload_n (i := 0) (q := 17) dX7_chair_16 rfl rfl rfl ?_
      refine wk_getI (fi := 16) (q := 20) dX7_chair_17 rfl fl_X7_161 rfl rfl hM.ob ?_
      refine wk_aload_n (i := 0) (q := 21) dX7_chair_20 rfl rfl rfl ?_
      refine wk_getI (fi := 5) (q := 24) dX7_chair_21 rfl fl_X7_125 rfl rfl hM.ob ?_
      refine wk_iconst (q := 25) dX7_chair_24 rfl ?_
      refine wk_isub (q := 26) dX7_chair_25 rfl ?_
      obtain ⟨t1, t2, t3⟩ := h.1.tab (by omega)
      have b0 := t1.1
      have b1 := t2.1.2.2.1
      have b2 := t2.1.2.2.2.1
      rw [(h.2.2.2.2.2.2 (by omega)).1, e5]
      refine wk_icmp_ne (t := 33) (q := 29) dX7_chair_26 rfl rfl (by omega) (by omega) (fun hc26 => ?_) (fun hc26 => ?_)
      · refine wk_aload_n (i := 0) (q := 34) dX7_chair_33 rfl rfl rfl ?_
        refine wk_cV0 (q := 37) dX7_chair_34 rfl vl_X7_224 ⟨_, _, rfl⟩ hM.ob (ct_lay hM h (by omega)) (qRo_m ok_X7_layNow (by decide) (Nat.le_refl _) (Nat.le_refl _)) (Nat.le_of_ble_eq_true rfl) (fun I34 L34 R34 hv34 => ?_)
        obtain ⟨rfl, rfl, h1, f1, f2, f3, f4⟩ := hv34
        refine wk_aload_n (i := 0) (q := 38) dX7_chair_37 rfl rfl rfl ?_
        refine wk_cV0 (q := 41) dX7_chair_38 rfl vl_X7_227 ⟨_, _, rfl⟩ hM.ob (ct_nightV hM h1 (by omega) f2 f3 f4) (qRo_m ok_X7_goNight (by decide) (Nat.le_refl _) (Nat.le_refl _)) (Nat.le_of_ble_eq_true rfl) (fun I38 L38 R38 hv38 => ?_)
        obtain ⟨rfl, rfl, h2, g1, g2⟩ := hv38
        have ez : I38 (m + 23) g = (evV V).gl g := g2.2.2.2.1 g hv2.1 hv2.2
        have g4 : sumI (fun s => (evV V).gl (V.C.od s)) V.C.se.toNat = sumI (evV V).gl V.T.ng.toNat := evE_sum t2.1
        refine wk_aload_n (i := 0) (q := 42) dX7_chair_41 rfl rfl rfl ?_
        refine wk_cP0 (q := 45) dX7_chair_42 rfl vl_X7_230 ⟨_, _, rfl⟩ hM.ob (ct_allV (e := evV V) hM t1 t2.1 g1 g2.2.2.2.1) (qRo_m ok_X7_allGlad (by decide) (Nat.le_refl _) (Nat.le_refl _)) (Nat.le_of_ble_eq_true rfl) (fun v42 hv42 => ?_)
        rw [g4] at hv42
        subst hv42
        refine wk_aload_n (i := 0) (q := 46) dX7_chair_45 rfl rfl rfl ?_
        refine wk_getR (fi := 35) (q := 49) dX7_chair_46 rfl fl_X7_76 rfl rfl hM.ob hM.r35 ?_
        refine wk_iload_n (i := 1) (q := 50) dX7_chair_49 rfl rfl rfl ?_
        refine wk_iald (q := 51) dX7_chair_50 rfl hM.s35 (by omega) ?_
        rw [ez]
        refine wk_isub (q := 52) dX7_chair_51 rfl ?_
        refine wk_istore_n (i := 2) (lo' := [(0, _), (1, _), (2, _)]) (q := 53) dX7_chair_52 rfl rfl (by decide) rfl ?_
        refine wk_aload_n (i := 0) (q := 54) dX7_chair_53 rfl rfl rfl ?_
        refine wk_cV0 (q := 57) dX7_chair_54 rfl vl_X7_224 ⟨_, _, rfl⟩ hM.ob (ct_lay hM h2 (by omega)) (qRo_m ok_X7_layNow (by decide) (Nat.le_refl _) (Nat.le_refl _)) (Nat.le_of_ble_eq_true rfl) (fun I54 L54 R54 hv54 => ?_)
        obtain ⟨rfl, rfl, h3, k1, k2, k3, k4⟩ := hv54
        refine wk_aload_n (i := 0) (q := 58) dX7_chair_57 rfl rfl rfl ?_
        refine wk_iconst (q := 59) dX7_chair_58 rfl ?_
        refine wk_putI (fi := 28) (q := 62) dX7_chair_59 rfl fl_X7_194 fw_7_28 rfl rfl hM.ob ?_
        refine wk_iconst (q := 63) dX7_chair_62 rfl ?_
        refine wk_istore_n (i := 3) (lo' := [(0, _), (1, _), (2, _), (3, _)]) (q := 64) dX7_chair_63 rfl rfl (by decide) rfl ?_
        have sb := (h.seat hv2.1 hv2.2).1
        exact loop hv2 (by omega) (by omega) _ h3 (f1.n.tr (g2.1.n.tr k1.n)).o ⟨fun _ _ _ _ => rfl, k2, k3, k4⟩ 0 (Nat.zero_le _) _ (fun b i q0 q1 => up_off q0) (by rw [up_eq, if_neg (by omega)]; rfl) (fun s s0 s1 => by rw [if_neg (by omega)] at s1; omega)
      · refine wk_ldc2 (z := (-9223372036854775808)) (q := 32) dX7_chair_29 rfl (v := (-9223372036854775808)) (qtb_in 1088 (by decide +kernel) (by decide +kernel)) rfl ?_
        refine wk_lret dX7_chair_32 rfl ⟨Nat.le_refl _, Nat.le_refl _⟩ rfl ?_
        refine mp_sameJ h rfl ?_
        unfold r_chair
        first
          | rw [if_neg (fun q => hv2 q.1)]
          | rw [if_neg (by omega)]
  · rw [e5] at hv2
    refine wk_if_eq (t := 29) (q := 8) dX7_chair_5 rfl rfl (by omega) (fun _ => ?_) (fun hq => absurd hq (by decide))
    refine wk_ldc2 (z := (-9223372036854775808)) (q := 32) dX7_chair_29 rfl (v := (-9223372036854775808)) (qtb_in 1088 (by decide +kernel) (by decide +kernel)) rfl ?_
    refine wk_lret dX7_chair_32 rfl ⟨Nat.le_refl _, Nat.le_refl _⟩ rfl ?_
    refine mp_sameJ h rfl ?_
    unfold r_chair
    first
      | rw [if_neg (fun q => hv2 q.1)]
      | rw [if_neg (by omega)]
end CHAIR
