/-! the class Table: one asks -/
section TABLE
variable {l : Launch} {E : qEv} {n : Nat} {sh : qSh} {I L : qI} {R : qR}
theorem ct_X4_layOut {t o : Nat} (hT : qTab E.2.2 n sh R t o) :
    Ct l E 1 mX4_layOut [.ref t] (n, sh, I, L, R) 0 0 (qV n sh (fun I' L' R' => I' = cpI I (o + 1) (t + 26) 0 0 6 ∧ L' = L ∧ R' = R)) := by
  refine Ct.of (lo := [(0, _)]) ok_X4_layOut (Nat.le_of_ble_eq_true rfl) rfl ?_
  refine wk_aload_n (i := 0) (q := 1) dX4_layOut_0 rfl rfl rfl ?_
  refine wk_getR (fi := 0) (q := 4) dX4_layOut_1 rfl fl_X4_12 rfl rfl hT.1.ob hT.2.1 ?_
  refine wk_getR (fi := 0) (q := 7) dX4_layOut_4 rfl fl_X4_91 rfl rfl hT.2.2.ob hT.2.2.r0 ?_
  refine wk_iconst (q := 8) dX4_layOut_7 rfl ?_
  refine wk_aload_n (i := 0) (q := 9) dX4_layOut_8 rfl rfl rfl ?_
  refine wk_getR (fi := 9) (q := 12) dX4_layOut_9 rfl fl_X4_37 rfl rfl hT.1.ob hT.1.r9 ?_
  refine wk_iconst (q := 13) dX4_layOut_12 rfl ?_
  refine wk_bipush (q := 15) dX4_layOut_13 rfl (by decide +kernel) ?_
  refine wk_copy (q := 18) dX4_layOut_15 rfl w_ac_4 hT.2.2.s0 hT.1.s9 (by omega) (by omega) (by omega) (Nat.le_of_ble_eq_true rfl) (Nat.le_of_ble_eq_true rfl) ?_
  refine wk_ret dX4_layOut_18 rfl ⟨Nat.le_refl _, Nat.le_refl _⟩ rfl ?_
  exact ⟨_, _, _, rfl, rfl, rfl, rfl, rfl⟩
theorem ct_X4_askedFor {t o : Nat} {s : Int} (hT : qTab E.2.2 n sh R t o) (h0 : 0 ≤ s ∧ s < 7) (h1 : 0 < I t 5 ∧ I t 5 ≤ 7) (h2 : 0 ≤ I t 6 ∧ I t 6 < 100) :
    Ct l E 0 mX4_askedFor [.ref t, .int (zI s)] (n, sh, I, L, R) 0 0 (qP n sh I L R (fun v => v = I (t + 15) ((s + I t 6) % I t 5))) := by
  have hm := Int.emod_nonneg (s + I t 6) (b := I t 5) (by omega)
  have hm2 := Int.emod_lt_of_pos (s + I t 6) (b := I t 5) (by omega)
  refine Ct.of (lo := [(0, _), (1, _)]) ok_X4_askedFor (Nat.le_of_ble_eq_true rfl) rfl ?_
  refine wk_aload_n (i := 0) (q := 1) dX4_askedFor_0 rfl rfl rfl ?_
  refine wk_getI (fi := 5) (q := 4) dX4_askedFor_1 rfl fl_X4_52 rfl rfl hT.1.ob ?_
  refine wk_if_le (t := 26) (q := 7) dX4_askedFor_4 rfl rfl (by omega) (fun hc4 => ?_) (fun hc4 => ?_)
  · refine wk_iconst (q := 27) dX4_askedFor_26 rfl ?_
    refine wk_iret dX4_askedFor_27 rfl ⟨Nat.le_refl _, Nat.le_refl _⟩ rfl ?_
    refine ⟨_, _, _, _, rfl, rfl, rfl, rfl, rfl, ?_⟩
    first | rfl | omega
  · refine wk_aload_n (i := 0) (q := 8) dX4_askedFor_7 rfl rfl rfl ?_
    refine wk_getR (fi := 1) (q := 11) dX4_askedFor_8 rfl fl_X4_18 rfl rfl hT.1.ob hT.1.r1 ?_
    refine wk_iload_n (i := 1) (q := 12) dX4_askedFor_11 rfl rfl rfl ?_
    refine wk_aload_n (i := 0) (q := 13) dX4_askedFor_12 rfl rfl rfl ?_
    refine wk_getI (fi := 6) (q := 16) dX4_askedFor_13 rfl fl_X4_55 rfl rfl hT.1.ob ?_
    refine wk_iadd (q := 17) dX4_askedFor_16 rfl ?_
    refine wk_aload_n (i := 0) (q := 18) dX4_askedFor_17 rfl rfl rfl ?_
    refine wk_getI (fi := 5) (q := 21) dX4_askedFor_18 rfl fl_X4_52 rfl rfl hT.1.ob ?_
    refine wk_irem (q := 22) dX4_askedFor_21 rfl (by omega) (by omega) ?_
    refine wk_iald (q := 23) dX4_askedFor_22 rfl hT.1.s1 (by omega) ?_
    refine wk_goto (t := 27) dX4_askedFor_23 rfl ?_
    refine wk_iret dX4_askedFor_27 rfl ⟨Nat.le_refl _, Nat.le_refl _⟩ rfl ?_
    refine ⟨_, _, _, _, rfl, rfl, rfl, rfl, rfl, ?_⟩
    first | rfl | omega
theorem ct_X4_mannerOf {t o : Nat} {g sp : Int} {T : TT} {C : CC} {la : Int → Int} (hT : qTab E.2.2 n sh R t o) (hok : T.ok) (hC : C.ok T) (hsT : shT I o T) (hsC : shC I t T C) (hg : 0 ≤ g ∧ g < T.ng) (hsp : I t 8 = sp) (hsp2 : -1 ≤ sp ∧ sp < 7) (hla : I (t + 17) g = la g) (hl2 : -9 ≤ la g ∧ la g < T.nd) :
    Ct l E 1 mX4_mannerOf [.ref t, .int (zI g)] (n, sh, I, L, R) 0 0 (qP n sh I L R (fun v => v = manner T C sp la g)) := by
  have hn := hok.2.1
  have hnd := hok.2.2.2.1
  obtain ⟨k1, k2, k3⟩ := hC.2.2.2.2.2.2.2.2.2.2 g hg.1 hg.2
  obtain ⟨c1, c2, c3, c4, c5, c6, c7⟩ := hok.2.2.2.2.2 g hg.1 hg.2
  have e1 := (hsC.2.2.2.2 g hg.1 hg.2).1
  obtain ⟨-, -, e2, e3⟩ := hsT.2.2.2 g hg.1 hg.2
  refine Ct.of (lo := [(0, _), (1, _)]) ok_X4_mannerOf (Nat.le_of_ble_eq_true rfl) rfl ?_
  refine wk_iload_n (i := 1) (q := 1) dX4_mannerOf_0 rfl rfl rfl ?_
  refine wk_aload_n (i := 0) (q := 2) dX4_mannerOf_1 rfl rfl rfl ?_
  refine wk_getI (fi := 8) (q := 5) dX4_mannerOf_2 rfl fl_X4_33 rfl rfl hT.1.ob ?_
  refine wk_icmp_ne (t := 10) (q := 8) dX4_mannerOf_5 rfl rfl (by omega) (by omega) (fun hc5 => ?_) (fun hc5 => ?_)
  · refine wk_aload_n (i := 0) (q := 11) dX4_mannerOf_10 rfl rfl rfl ?_
    refine wk_getR (fi := 2) (q := 14) dX4_mannerOf_11 rfl fl_X4_22 rfl rfl hT.1.ob hT.1.r2 ?_
    refine wk_iload_n (i := 1) (q := 15) dX4_mannerOf_14 rfl rfl rfl ?_
    refine wk_iald (q := 16) dX4_mannerOf_15 rfl hT.1.s2 (by omega) ?_
    refine wk_iconst (q := 17) dX4_mannerOf_16 rfl ?_
    refine wk_icmp_eq (t := 27) (q := 20) dX4_mannerOf_17 rfl rfl (by omega) (by omega) (fun hc17 => ?_) (fun hc17 => ?_)
    · refine wk_aload_n (i := 0) (q := 28) dX4_mannerOf_27 rfl rfl rfl ?_
      refine wk_getR (fi := 3) (q := 31) dX4_mannerOf_28 rfl fl_X4_25 rfl rfl hT.1.ob hT.1.r3 ?_
      refine wk_iload_n (i := 1) (q := 32) dX4_mannerOf_31 rfl rfl rfl ?_
      refine wk_iald (q := 33) dX4_mannerOf_32 rfl hT.1.s3 (by omega) ?_
      refine wk_bipush (q := 35) dX4_mannerOf_33 rfl (by decide +kernel) ?_
      refine wk_icmp_eq (t := 64) (q := 38) dX4_mannerOf_35 rfl rfl (by omega) (by omega) (fun hc35 => ?_) (fun hc35 => ?_)
      · refine wk_iconst (q := 65) dX4_mannerOf_64 rfl ?_
        refine wk_goto (t := 69) dX4_mannerOf_65 rfl ?_
        refine wk_istore_n (i := 2) (lo' := [(0, _), (1, _), (2, _)]) (q := 70) dX4_mannerOf_69 rfl rfl (by decide) rfl ?_
        refine wk_iload_n (i := 2) (q := 71) dX4_mannerOf_70 rfl rfl rfl ?_
        refine wk_if_eq (t := 78) (q := 74) dX4_mannerOf_71 rfl rfl (by omega) (fun hc71 => ?_) (fun hc71 => ?_)
        · refine wk_iconst (q := 79) dX4_mannerOf_78 rfl ?_
          refine wk_iret dX4_mannerOf_79 rfl ⟨Nat.le_refl _, Nat.le_refl _⟩ rfl ?_
          refine ⟨_, _, _, _, rfl, rfl, rfl, rfl, rfl, ?_⟩
          unfold manner
          simp_all
          try omega
        · refine wk_iconst (q := 75) dX4_mannerOf_74 rfl ?_
          refine wk_goto (t := 79) dX4_mannerOf_75 rfl ?_
          refine wk_iret dX4_mannerOf_79 rfl ⟨Nat.le_refl _, Nat.le_refl _⟩ rfl ?_
          refine ⟨_, _, _, _, rfl, rfl, rfl, rfl, rfl, ?_⟩
          unfold manner
          simp_all
          try omega
      · refine wk_aload_n (i := 0) (q := 39) dX4_mannerOf_38 rfl rfl rfl ?_
        refine wk_getR (fi := 0) (q := 42) dX4_mannerOf_39 rfl fl_X4_12 rfl rfl hT.1.ob hT.2.1 ?_
        refine wk_iload_n (i := 1) (q := 43) dX4_mannerOf_42 rfl rfl rfl ?_
        refine wk_aload_n (i := 0) (q := 44) dX4_mannerOf_43 rfl rfl rfl ?_
        refine wk_getR (fi := 3) (q := 47) dX4_mannerOf_44 rfl fl_X4_25 rfl rfl hT.1.ob hT.1.r3 ?_
        refine wk_iload_n (i := 1) (q := 48) dX4_mannerOf_47 rfl rfl rfl ?_
        refine wk_iald (q := 49) dX4_mannerOf_48 rfl hT.1.s3 (by omega) ?_
        refine wk_cP2 (q := 52) dX4_mannerOf_49 rfl vl_X4_120 ⟨_, _, rfl⟩ hT.2.2.ob (ct_X5_truly hT.2.2 (by omega) (by omega)) (qRo_m ok_X5_truly (by decide) (Nat.le_refl _) (Nat.le_refl _)) (Nat.le_of_ble_eq_true rfl) (fun v49 hv49 => ?_)
        rw [hla] at hv49
        have hw : v49 = truly T g (la g) := by
          rw [hv49]
          unfold truly
          split
          · rfl
          · exact e3 _ (by omega) hl2.2
        have hw2 : -1 ≤ v49 ∧ v49 ≤ 9 := by
          rw [hv49]
          split
          · omega
          · rw [e3 _ (by omega) hl2.2]; exact c7 _ (by omega) hl2.2
        refine wk_aload_n (i := 0) (q := 53) dX4_mannerOf_52 rfl rfl rfl ?_
        refine wk_getR (fi := 0) (q := 56) dX4_mannerOf_53 rfl fl_X4_12 rfl rfl hT.1.ob hT.2.1 ?_
        refine wk_getR (fi := 4) (q := 59) dX4_mannerOf_56 rfl fl_X4_123 rfl rfl hT.2.2.ob hT.2.2.r4 ?_
        refine wk_iload_n (i := 1) (q := 60) dX4_mannerOf_59 rfl rfl rfl ?_
        refine wk_iald (q := 61) dX4_mannerOf_60 rfl hT.2.2.s4 (by omega) ?_
        refine wk_icmp_lt (t := 68) (q := 64) dX4_mannerOf_61 rfl rfl (by omega) (by omega) (fun hc61 => ?_) (fun hc61 => ?_)
        · refine wk_iconst (q := 69) dX4_mannerOf_68 rfl ?_
          refine wk_istore_n (i := 2) (lo' := [(0, _), (1, _), (2, _)]) (q := 70) dX4_mannerOf_69 rfl rfl (by decide) rfl ?_
          refine wk_iload_n (i := 2) (q := 71) dX4_mannerOf_70 rfl rfl rfl ?_
          refine wk_if_eq (t := 78) (q := 74) dX4_mannerOf_71 rfl rfl (by omega) (fun hc71 => ?_) (fun hc71 => ?_)
          · refine wk_iconst (q := 79) dX4_mannerOf_78 rfl ?_
            refine wk_iret dX4_mannerOf_79 rfl ⟨Nat.le_refl _, Nat.le_refl _⟩ rfl ?_
            refine ⟨_, _, _, _, rfl, rfl, rfl, rfl, rfl, ?_⟩
            unfold manner
            simp_all
            try omega
          · refine wk_iconst (q := 75) dX4_mannerOf_74 rfl ?_
            refine wk_goto (t := 79) dX4_mannerOf_75 rfl ?_
            refine wk_iret dX4_mannerOf_79 rfl ⟨Nat.le_refl _, Nat.le_refl _⟩ rfl ?_
            refine ⟨_, _, _, _, rfl, rfl, rfl, rfl, rfl, ?_⟩
            unfold manner
            simp_all
            try omega
        · refine wk_iconst (q := 65) dX4_mannerOf_64 rfl ?_
          refine wk_goto (t := 69) dX4_mannerOf_65 rfl ?_
          refine wk_istore_n (i := 2) (lo' := [(0, _), (1, _), (2, _)]) (q := 70) dX4_mannerOf_69 rfl rfl (by decide) rfl ?_
          refine wk_iload_n (i := 2) (q := 71) dX4_mannerOf_70 rfl rfl rfl ?_
          refine wk_if_eq (t := 78) (q := 74) dX4_mannerOf_71 rfl rfl (by omega) (fun hc71 => ?_) (fun hc71 => ?_)
          · refine wk_iconst (q := 79) dX4_mannerOf_78 rfl ?_
            refine wk_iret dX4_mannerOf_79 rfl ⟨Nat.le_refl _, Nat.le_refl _⟩ rfl ?_
            refine ⟨_, _, _, _, rfl, rfl, rfl, rfl, rfl, ?_⟩
            unfold manner
            simp_all
            try omega
          · refine wk_iconst (q := 75) dX4_mannerOf_74 rfl ?_
            refine wk_goto (t := 79) dX4_mannerOf_75 rfl ?_
            refine wk_iret dX4_mannerOf_79 rfl ⟨Nat.le_refl _, Nat.le_refl _⟩ rfl ?_
            refine ⟨_, _, _, _, rfl, rfl, rfl, rfl, rfl, ?_⟩
            unfold manner
            simp_all
            try omega
    · refine wk_aload_n (i := 0) (q := 21) dX4_mannerOf_20 rfl rfl rfl ?_
      refine wk_getR (fi := 2) (q := 24) dX4_mannerOf_21 rfl fl_X4_22 rfl rfl hT.1.ob hT.1.r2 ?_
      refine wk_iload_n (i := 1) (q := 25) dX4_mannerOf_24 rfl rfl rfl ?_
      refine wk_iald (q := 26) dX4_mannerOf_25 rfl hT.1.s2 (by omega) ?_
      refine wk_iret dX4_mannerOf_26 rfl ⟨Nat.le_refl _, Nat.le_refl _⟩ rfl ?_
      refine ⟨_, _, _, _, rfl, rfl, rfl, rfl, rfl, ?_⟩
      unfold manner
      simp_all
      try omega
  · refine wk_iconst (q := 9) dX4_mannerOf_8 rfl ?_
    refine wk_iret dX4_mannerOf_9 rfl ⟨Nat.le_refl _, Nat.le_refl _⟩ rfl ?_
    refine ⟨_, _, _, _, rfl, rfl, rfl, rfl, rfl, ?_⟩
    unfold manner
    simp_all
    try omega
end TABLE
