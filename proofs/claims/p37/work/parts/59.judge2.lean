/-! judge (2) -/
section JUDGE2
variable {l : Launch} {E : qEv} {n : Nat} {sh : qSh} {I L : qI} {R : qR}
theorem badN_go {V : VV} {k i : Int} {j : Nat} (h : badN V k i j = 0) (hb : jc V k i j = -9 ∨ (0 ≤ jc V k i j ∧ jc V k i j < V.T.nd)) : badN V k i (j + 1) = 0 := by
  unfold badN
  rw [if_neg (by omega), if_neg (fun q => by omega)]
theorem badN_bad {V : VV} {k i : Int} {j N : Nat} (h : badN V k i j = 0) (hb : jc V k i j ≠ -9) (hb2 : ¬ (0 ≤ jc V k i j ∧ jc V k i j < V.T.nd)) (hN : j < N) : badN V k i N = 1 := by
  refine badN_up (j := j + 1) ?_ N (by omega)
  unfold badN
  rw [if_neg (by omega), if_pos ⟨hb, hb2⟩]
theorem oc_judge {x : Nat} {V : VV} {k so i z : Int} (h : CI E.2.2 n sh x I L R V) (hk : in32 k) (hso : in32 so) (hi : in32 i) (hz : in32 z) :
    Ct l E 5 mX6_judge [.ref x, .int (zI k), .int (zI so), .int (zI i), .int (zI z)] (n, sh, I, L, R) 0 0 (qZ n sh (cpZ E.2.2 n sh x I R (r_judge V k so i z) (V.setFa (refF V k so i z)))) := by
  obtain ⟨o, dr, w1, w2, w3, hh⟩ := id h
  obtain ⟨hX, hod, hok, h10, h11, h12, hS, hT, hB, hC⟩ := id hh
  have hng := hok.ng
  have hrin : in32 (refR V k so i z) := by
    unfold refR
    repeat (first | split | omega)
  have hfr : ∀ V' : VV, V'.ok → True := fun _ _ => trivial
  obtain ⟨V', hV'⟩ : ∃ V', V' = V.setFa (refF V k so i z) := ⟨_, rfl⟩
  rw [← hV']
  have eT : V'.T = V.T := by rw [hV']; rfl
  have eC : V'.C = V.C := by rw [hV']; rfl
  have ece : V'.ce = V.ce := by rw [hV']; rfl
  have ejL : ∀ j : Nat, judL V' k i j = judL V k i j := by
    intro j
    rw [hV']
    induction j with
    | zero => rfl
    | succ j ih =>
      show (if _ = (-9 : Int) then _ else _) = (if _ = (-9 : Int) then _ else _)
      rw [ih]
      rfl
  have ejN : ∀ j : Nat, judN V' k i j = judN V k i j := by
    intro j
    induction j with
    | zero => rfl
    | succ j ih =>
      unfold judN judB
      rw [ih, ejL j, hV']
      rfl
  have ebN : ∀ j : Nat, badN V' k i j = badN V k i j := by
    intro j
    rw [hV']
    induction j with
    | zero => rfl
    | succ j ih =>
      unfold badN
      rw [ih]
      rfl
  refine Ct.of (lo := [(0, _), (1, _), (2, _), (3, _), (4, _)]) ok_X6_judge (Nat.le_of_ble_eq_true rfl) rfl ?_
  have loop : refR V k so i z = 0 → 0 < V.T.ng → z ≤ V.C.co * V.T.ng → ∀ I1 : qI, CI0 E.2.2 n sh x I1 L R V' o dr w1 w2 w3 → frO I I1 x 167 → ∀ j : Nat, j ≤ z.toNat → badN V k i j = 0 → Wk l E (qmo E 5 n 0 0 (qZ n sh (cpZ E.2.2 n sh x I R (r_judge V k so i z) V'))) mX6_judge 0 0 66
      [(0, .ref x), (1, .int (zI k)), (2, .int (zI so)), (3, .int (zI i)), (4, .int (zI z)), (5, .int (zI (refR V k so i z))), (6, .ref (x + 159 + 2 * k.toNat + 1)), (7, .int (zI (i + (j : Int))))] [] (n, sh, I1, L, R) := by
    intro hr hp hzc I1 hh1 f1
    have hX := hh1.1
    have r0 := refR_0 hr
    have sok := hok.1 k r0.1.1 r0.1.2
    have ea := (hX.e0 r0.1).s0
    have e6 : I1 o 6 = V.T.nd := by rw [← eT]; exact hh1.2.2.2.2.2.2.2.1.1.1
    obtain ⟨t1, t2, t3⟩ := hok.tab hp
    have co8 := t2.1.2.2.2.2.2.1
    have co1 := t2.1.2.2.2.2.1
    have hz56 : z ≤ 56 := by
      have h1 : V.C.co * V.T.ng ≤ 8 * V.T.ng := Int.mul_le_mul_of_nonneg_right co8 (by omega)
      omega
    have hrj : badN V k i z.toNat = 0 → r_judge V k so i z = judN V k i z.toNat := by
      intro q
      unfold r_judge
      rw [if_neg (fun c => c hr), if_neg (fun c => c hp), if_neg (by omega), if_neg (by omega)]
    have hrb : badN V k i z.toNat = 1 → r_judge V k so i z = -1 := by
      intro q
      unfold r_judge
      rw [if_neg (fun c => c hr), if_neg (fun c => c hp), if_neg (by omega), if_pos q]
    refine up_ind z.toNat ?_ ?_
    · intro hb
      refine wk_iload (i := 7) (q := 68) dX6_judge_66 rfl rfl ?_
      refine wk_iload_n (i := 3) (q := 69) dX6_judge_68 rfl rfl rfl ?_
      refine wk_iload (i := 4) (q := 71) dX6_judge_69 rfl rfl ?_
      refine wk_iadd (q := 72) dX6_judge_71 rfl ?_
      refine wk_icmp_ge (t := 105) (q := 75) dX6_judge_72 rfl rfl (by omega) (by omega) (fun hc72 => ?_) (fun hc72 => ?_)
      · refine wk_aload_n (i := 0) (q := 106) dX6_judge_105 rfl rfl rfl ?_
        refine wk_aload (i := 6) (q := 108) dX6_judge_106 rfl rfl ?_
        refine wk_iload_n (i := 3) (q := 109) dX6_judge_108 rfl rfl rfl ?_
        refine wk_iload (i := 4) (q := 111) dX6_judge_109 rfl rfl ?_
        refine wk_cZ3 (q := 114) dX6_judge_111 rfl vl_X6_181 ⟨_, _, rfl⟩ hX.ob (ct_X6_firstThatCannotBe hh1 (by rw [eT]; exact hp) r0.1 (by omega) (by omega) (by omega) (by rw [ebN]; exact hb)) (qRo_m ok_X6_firstThatCannotBe (by decide) (Nat.le_refl _) (Nat.le_refl _)) (Nat.le_of_ble_eq_true rfl) (fun v111 I111 L111 R111 hv111 => ?_)
        obtain ⟨c1, c2, c3, c4⟩ := hv111
        refine wk_iret dX6_judge_114 rfl ⟨Nat.le_refl _, Nat.le_refl _⟩ rfl ?_
        refine ⟨_, _, _, _, rfl, rfl, ?_, c2, f1.tr c3, c4⟩
        rw [c1, hrj hb, ejN]
      · omega
    · intro j hj ih hb
      have ecl : I1 (x + 159 + 2 * k.toNat + 1) (i + j) = V.ce k (i + j) := by rw [← ece]; exact (hh1.2.2.2.2.2.2.1 k r0.1.1 r0.1.2).2.2.2 (i + j) (by omega) (by omega)
      have bcl := sok.2.2.2.2 (i + j) (by omega) (by omega)
      have hjc : jc V k i j = V.ce k (i + j) := rfl
      refine wk_iload (i := 7) (q := 68) dX6_judge_66 rfl rfl ?_
      refine wk_iload_n (i := 3) (q := 69) dX6_judge_68 rfl rfl rfl ?_
      refine wk_iload (i := 4) (q := 71) dX6_judge_69 rfl rfl ?_
      refine wk_iadd (q := 72) dX6_judge_71 rfl ?_
      refine wk_icmp_ge (t := 105) (q := 75) dX6_judge_72 rfl rfl (by omega) (by omega) (fun hc72 => ?_) (fun hc72 => ?_)
      · omega
      · refine wk_aload (i := 6) (q := 77) dX6_judge_75 rfl rfl ?_
        refine wk_iload (i := 7) (q := 79) dX6_judge_77 rfl rfl ?_
        refine wk_iald (q := 80) dX6_judge_79 rfl ea (by omega) ?_
        rw [ecl]
        refine wk_bipush (q := 82) dX6_judge_80 rfl (by decide +kernel) ?_
        refine wk_icmp_eq (t := 99) (q := 85) dX6_judge_82 rfl rfl (by omega) (by omega) (fun hc82 => ?_) (fun hc82 => ?_)
        · refine wk_iinc (lo' := [(0, _), (1, _), (2, _), (3, _), (4, _), (5, _), (6, _), (7, _)]) (q := 102) dX6_judge_99 rfl rfl (by decide) rfl ?_
          refine wk_goto (t := 66) dX6_judge_102 rfl ?_
          first
          | (have ih' := ih (badN_go hb (Or.inl hc82)); rw [show i + ((j + 1 : Nat) : Int) = i + (j : Int) + 1 by omega] at ih'; exact ih')
          | (have ih' := ih (badN_go hb (Or.inr hv91)); rw [show i + ((j + 1 : Nat) : Int) = i + (j : Int) + 1 by omega] at ih'; exact ih')
        · refine wk_aload_n (i := 0) (q := 86) dX6_judge_85 rfl rfl rfl ?_
          refine wk_aload (i := 6) (q := 88) dX6_judge_86 rfl rfl ?_
          refine wk_iload (i := 7) (q := 90) dX6_judge_88 rfl rfl ?_
          refine wk_iald (q := 91) dX6_judge_90 rfl ea (by omega) ?_
          rw [ecl]
          refine wk_cP1 (q := 94) dX6_judge_91 rfl vl_X6_91 ⟨_, _, rfl⟩ hX.ob (ct_X6_isDish hX bcl (by omega)) (qRo_m ok_X6_isDish (by decide) (Nat.le_refl _) (Nat.le_refl _)) (Nat.le_of_ble_eq_true rfl) (fun v91 hv91 => ?_)
          rcases hv91 with ⟨rfl, hv91⟩ | ⟨rfl, hv91⟩
          · rw [e6] at hv91
            refine wk_if_ne (t := 99) (q := 97) dX6_judge_94 rfl rfl (by omega) (fun _ => ?_) (fun hq => absurd hq (by decide))
            refine wk_iinc (lo' := [(0, _), (1, _), (2, _), (3, _), (4, _), (5, _), (6, _), (7, _)]) (q := 102) dX6_judge_99 rfl rfl (by decide) rfl ?_
            refine wk_goto (t := 66) dX6_judge_102 rfl ?_
            first
            | (have ih' := ih (badN_go hb (Or.inl hc82)); rw [show i + ((j + 1 : Nat) : Int) = i + (j : Int) + 1 by omega] at ih'; exact ih')
            | (have ih' := ih (badN_go hb (Or.inr hv91)); rw [show i + ((j + 1 : Nat) : Int) = i + (j : Int) + 1 by omega] at ih'; exact ih')
          · rw [e6] at hv91
            refine wk_if_ne (t := 99) (q := 97) dX6_judge_94 rfl rfl (by omega) (fun hq => absurd hq (by decide)) (fun _ => ?_)
            refine wk_iconst (q := 98) dX6_judge_97 rfl ?_
            refine wk_iret dX6_judge_98 rfl ⟨Nat.le_refl _, Nat.le_refl _⟩ rfl ?_
            refine ⟨_, _, _, _, rfl, rfl, ?_, hh1.ci, f1, frO.rf⟩
            exact (hrb (badN_bad hb hc82 hv91 (by omega))).symm
  refine wk_aload_n (i := 0) (q := 1) dX6_judge_0 rfl rfl rfl ?_
  refine wk_iload_n (i := 1) (q := 2) dX6_judge_1 rfl rfl rfl ?_
  refine wk_iload_n (i := 2) (q := 3) dX6_judge_2 rfl rfl rfl ?_
  refine wk_iload_n (i := 3) (q := 4) dX6_judge_3 rfl rfl rfl ?_
  refine wk_iload (i := 4) (q := 6) dX6_judge_4 rfl rfl ?_
  refine wk_cZ4 (q := 9) dX6_judge_6 rfl vl_X6_65 ⟨_, _, rfl⟩ hX.ob (ct_X6_refusalOfRow hX hS hok.1 hk hso hi hz) (qRo_m ok_X6_refusalOfRow (by decide) (Nat.le_refl _) (Nat.le_refl _)) (Nat.le_of_ble_eq_true rfl) (fun v6 I6 L6 R6 hv6 => ?_)
  obtain ⟨rfl, f1, f2, rfl, rfl⟩ := hv6
  obtain ⟨c1, c2⟩ := hh.rf f1 f2
  rw [← hV'] at c1
  have hX := c1.1
  have e7 : I6 o 7 = V.T.ng := by rw [← eT]; exact c1.2.2.2.2.2.2.2.1.1.2.1
  refine wk_istore (i := 5) (lo' := [(0, _), (1, _), (2, _), (3, _), (4, _), (5, _)]) (q := 11) dX6_judge_9 rfl (by decide) rfl ?_
  refine wk_iload (i := 5) (q := 13) dX6_judge_11 rfl rfl ?_
  refine wk_if_eq (t := 19) (q := 16) dX6_judge_13 rfl rfl (by omega) (fun hc13 => ?_) (fun hc13 => ?_)
  · refine wk_aload_n (i := 0) (q := 20) dX6_judge_19 rfl rfl rfl ?_
    refine wk_cP0 (q := 23) dX6_judge_20 rfl vl_X6_138 ⟨_, _, rfl⟩ hX.ob (ct_X6_isTable hX (by omega)) (qRo_m ok_X6_isTable (by decide) (Nat.le_refl _) (Nat.le_refl _)) (Nat.le_of_ble_eq_true rfl) (fun v20 hv20 => ?_)
    rcases hv20 with ⟨rfl, hv20⟩ | ⟨rfl, hv20⟩
    · rw [e7] at hv20
      refine wk_if_ne (t := 29) (q := 26) dX6_judge_23 rfl rfl (by omega) (fun _ => ?_) (fun hq => absurd hq (by decide))
      refine wk_iload (i := 4) (q := 31) dX6_judge_29 rfl rfl ?_
      refine wk_aload_n (i := 0) (q := 32) dX6_judge_31 rfl rfl rfl ?_
      refine wk_getR (fi := 3) (q := 35) dX6_judge_32 rfl fl_X6_30 rfl rfl hX.ob hX.r3 ?_
      refine wk_getI (fi := 7) (q := 38) dX6_judge_35 rfl fl_X6_142 rfl rfl hX.t3.1.ob ?_
      refine wk_aload_n (i := 0) (q := 39) dX6_judge_38 rfl rfl rfl ?_
      refine wk_getR (fi := 1) (q := 42) dX6_judge_39 rfl fl_X6_20 rfl rfl hX.ob hX.r1 ?_
      refine wk_getI (fi := 7) (q := 45) dX6_judge_42 rfl fl_X6_88 rfl rfl hX.o1.ob ?_
      obtain ⟨t1, t2, t3⟩ := hok.tab hv20
      have co8 := t2.1.2.2.2.2.2.1
      have co1 := t2.1.2.2.2.2.1
      have ec : I6 (x + 30) 7 = V.C.co := by rw [← eC]; exact (c1.full (by rw [eT]; exact hv20)).2.2.2.2.1.2.2.1
      have m1 : V.C.co * V.T.ng ≤ 8 * V.T.ng := Int.mul_le_mul_of_nonneg_right co8 (by omega)
      have m2 : 0 ≤ V.C.co * V.T.ng := Int.mul_nonneg (by omega) (by omega)
      rw [ec, e7]
      refine wk_imul (q := 46) dX6_judge_45 rfl ?_
      refine wk_icmp_le (t := 52) (q := 49) dX6_judge_46 rfl rfl (by omega) (by omega) (fun hc46 => ?_) (fun hc46 => ?_)
      · refine wk_aload_n (i := 0) (q := 53) dX6_judge_52 rfl rfl rfl ?_
        refine wk_getR (fi := 0) (q := 56) dX6_judge_53 rfl fl_X6_13 rfl rfl hX.ob hX.r0 ?_
        refine wk_iload_n (i := 1) (q := 57) dX6_judge_56 rfl rfl rfl ?_
        have r0 := refR_0 hc13
        refine wk_aald3 (q := 58) dX6_judge_57 rfl hX.s0 (by omega) (hX.w0 (by omega)) ?_
        refine wk_getR (fi := 0) (q := 61) dX6_judge_58 rfl fl_X6_178 rfl rfl (hX.e0 (by omega)).ob (hX.e0 (by omega)).r0 ?_
        refine wk_astore (i := 6) (lo' := [(0, _), (1, _), (2, _), (3, _), (4, _), (5, _), (6, _)]) (q := 63) dX6_judge_61 rfl (by decide) rfl ?_
        refine wk_iload_n (i := 3) (q := 64) dX6_judge_63 rfl rfl rfl ?_
        refine wk_istore (i := 7) (lo' := [(0, _), (1, _), (2, _), (3, _), (4, _), (5, _), (6, _), (7, _)]) (q := 66) dX6_judge_64 rfl (by decide) rfl ?_
        have l0 := loop hc13 hv20 (by omega) _ c1 c2 0 (Nat.zero_le _) rfl
        rw [show i + ((0 : Nat) : Int) = i by omega] at l0
        exact l0
      · refine wk_bipush (q := 51) dX6_judge_49 rfl (by decide +kernel) ?_
        refine wk_iret dX6_judge_51 rfl ⟨Nat.le_refl _, Nat.le_refl _⟩ rfl ?_
        refine ⟨_, _, _, _, rfl, rfl, ?_, c1.ci, c2, frO.rf⟩
        unfold r_judge
        first
          | rw [if_pos hc13]
          | rw [if_neg (fun c => c hc13), if_pos hv20]
          | rw [if_neg (fun c => c hc13), if_neg (fun c => c hv20), if_pos (by omega)]
    · rw [e7] at hv20
      refine wk_if_ne (t := 29) (q := 26) dX6_judge_23 rfl rfl (by omega) (fun hq => absurd hq (by decide)) (fun _ => ?_)
      refine wk_bipush (q := 28) dX6_judge_26 rfl (by decide +kernel) ?_
      refine wk_iret dX6_judge_28 rfl ⟨Nat.le_refl _, Nat.le_refl _⟩ rfl ?_
      refine ⟨_, _, _, _, rfl, rfl, ?_, c1.ci, c2, frO.rf⟩
      unfold r_judge
      first
        | rw [if_pos hc13]
        | rw [if_neg (fun c => c hc13), if_pos hv20]
        | rw [if_neg (fun c => c hc13), if_neg (fun c => c hv20), if_pos (by omega)]
  · refine wk_iload (i := 5) (q := 18) dX6_judge_16 rfl rfl ?_
    refine wk_iret dX6_judge_18 rfl ⟨Nat.le_refl _, Nat.le_refl _⟩ rfl ?_
    refine ⟨_, _, _, _, rfl, rfl, ?_, c1.ci, c2, frO.rf⟩
    unfold r_judge
    first
      | rw [if_pos hc13]
      | rw [if_neg (fun c => c hc13), if_pos hv20]
      | rw [if_neg (fun c => c hc13), if_neg (fun c => c hv20), if_pos (by omega)]
end JUDGE2
