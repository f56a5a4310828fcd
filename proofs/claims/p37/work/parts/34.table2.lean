/-! the class Table: what it tells -/
section TABLE2
variable {l : Launch} {E : qEv} {n : Nat} {sh : qSh} {I L : qI} {R : qR}
theorem ct_X4_sum {t o a : Nat} {ng : Int} (hT : qTab E.2.2 n sh R t o) (ha : isC E.2.2 n sh a 0 7) (hg : I o 7 = ng) (hg2 : 0 ≤ ng ∧ ng ≤ 7) :
    Ct l E 0 mX4_sum [.ref t, .ref a] (n, sh, I, L, R) 0 0 (qP n sh I L R (fun v => v = sumI (fun g => I a g) ng.toNat)) := by
  have loop : ∀ k : Nat, k ≤ ng.toNat → Wk l E (qmo E 0 n 0 0 (qP n sh I L R (fun v => v = sumI (fun g => I a g) ng.toNat))) mX4_sum 0 0 4
      [(0, .ref t), (1, .ref a), (2, .int (zI (sumI (fun g => I a g) k))), (3, .int (zI (k : Int)))] [] (n, sh, I, L, R) := by
    refine up_ind ng.toNat ?_ ?_
    · skip
      refine wk_iload_n (i := 3) (q := 5) dX4_sum_4 rfl rfl rfl ?_
      refine wk_aload_n (i := 0) (q := 6) dX4_sum_5 rfl rfl rfl ?_
      refine wk_getR (fi := 0) (q := 9) dX4_sum_6 rfl fl_X4_12 rfl rfl hT.1.ob hT.2.1 ?_
      refine wk_getI (fi := 7) (q := 12) dX4_sum_9 rfl fl_X4_49 rfl rfl hT.2.2.ob ?_
      refine wk_icmp_ge (t := 27) (q := 15) dX4_sum_12 rfl rfl (by omega) (by omega) (fun hc12 => ?_) (fun hc12 => ?_)
      · refine wk_iload_n (i := 2) (q := 28) dX4_sum_27 rfl rfl rfl ?_
        refine wk_iret dX4_sum_28 rfl ⟨Nat.le_refl _, Nat.le_refl _⟩ rfl ?_
        refine ⟨_, _, _, _, rfl, rfl, rfl, rfl, rfl, ?_⟩
        rfl
      · omega
    · rintro k hk ih
      refine wk_iload_n (i := 3) (q := 5) dX4_sum_4 rfl rfl rfl ?_
      refine wk_aload_n (i := 0) (q := 6) dX4_sum_5 rfl rfl rfl ?_
      refine wk_getR (fi := 0) (q := 9) dX4_sum_6 rfl fl_X4_12 rfl rfl hT.1.ob hT.2.1 ?_
      refine wk_getI (fi := 7) (q := 12) dX4_sum_9 rfl fl_X4_49 rfl rfl hT.2.2.ob ?_
      refine wk_icmp_ge (t := 27) (q := 15) dX4_sum_12 rfl rfl (by omega) (by omega) (fun hc12 => ?_) (fun hc12 => ?_)
      · omega
      · refine wk_iload_n (i := 2) (q := 16) dX4_sum_15 rfl rfl rfl ?_
        refine wk_aload_n (i := 1) (q := 17) dX4_sum_16 rfl rfl rfl ?_
        refine wk_iload_n (i := 3) (q := 18) dX4_sum_17 rfl rfl rfl ?_
        refine wk_iald (q := 19) dX4_sum_18 rfl ha (by omega) ?_
        refine wk_iadd (q := 20) dX4_sum_19 rfl ?_
        refine wk_istore_n (i := 2) (lo' := [(0, _), (1, _), (2, _), (3, _)]) (q := 21) dX4_sum_20 rfl rfl (by decide) rfl ?_
        refine wk_iinc (lo' := [(0, _), (1, _), (2, _), (3, _)]) (q := 24) dX4_sum_21 rfl rfl (by decide) rfl ?_
        refine wk_goto (t := 4) dX4_sum_24 rfl ?_
        exact ih
  refine Ct.of (lo := [(0, _), (1, _)]) ok_X4_sum (Nat.le_of_ble_eq_true rfl) rfl ?_
  have l0 := loop 0 (Nat.zero_le _)
  refine wk_iconst (q := 1) dX4_sum_0 rfl ?_
  refine wk_istore_n (i := 2) (lo' := [(0, _), (1, _), (2, _)]) (q := 2) dX4_sum_1 rfl rfl (by decide) rfl ?_
  refine wk_iconst (q := 3) dX4_sum_2 rfl ?_
  refine wk_istore_n (i := 3) (lo' := [(0, _), (1, _), (2, _), (3, _)]) (q := 4) dX4_sum_3 rfl rfl (by decide) rfl ?_
  exact l0
theorem ct_X4_gladInAll {t o : Nat} {ng : Int} (hT : qTab E.2.2 n sh R t o) (hg : I o 7 = ng) (hg2 : 0 ≤ ng ∧ ng ≤ 7) :
    Ct l E 1 mX4_gladInAll [.ref t] (n, sh, I, L, R) 0 0 (qP n sh I L R (fun v => v = sumI (fun g => I (t + 36) g) ng.toNat)) := by
  refine Ct.of (lo := [(0, _)]) ok_X4_gladInAll (Nat.le_of_ble_eq_true rfl) rfl ?_
  refine wk_aload_n (i := 0) (q := 1) dX4_gladInAll_0 rfl rfl rfl ?_
  refine wk_aload_n (i := 0) (q := 2) dX4_gladInAll_1 rfl rfl rfl ?_
  refine wk_getR (fi := 11) (q := 5) dX4_gladInAll_2 rfl fl_X4_43 rfl rfl hT.1.ob hT.1.r11 ?_
  refine wk_cP1 (q := 8) dX4_gladInAll_5 rfl vl_X4_126 ⟨_, _, rfl⟩ hT.1.ob (ct_X4_sum hT hT.1.s11 hg hg2) (qRo_m ok_X4_sum (by decide) (Nat.le_refl _) (Nat.le_refl _)) (Nat.le_of_ble_eq_true rfl) (fun v5 hv5 => ?_)
  refine wk_iret dX4_gladInAll_8 rfl ⟨Nat.le_refl _, Nat.le_refl _⟩ rfl ?_
  refine ⟨_, _, _, _, rfl, rfl, rfl, rfl, rfl, ?_⟩
  exact hv5
theorem ct_X4_paidInAll {t o : Nat} {ng : Int} (hT : qTab E.2.2 n sh R t o) (hg : I o 7 = ng) (hg2 : 0 ≤ ng ∧ ng ≤ 7) :
    Ct l E 1 mX4_paidInAll [.ref t] (n, sh, I, L, R) 0 0 (qP n sh I L R (fun v => v = sumI (fun g => I (t + 37) g) ng.toNat)) := by
  refine Ct.of (lo := [(0, _)]) ok_X4_paidInAll (Nat.le_of_ble_eq_true rfl) rfl ?_
  refine wk_aload_n (i := 0) (q := 1) dX4_paidInAll_0 rfl rfl rfl ?_
  refine wk_aload_n (i := 0) (q := 2) dX4_paidInAll_1 rfl rfl rfl ?_
  refine wk_getR (fi := 12) (q := 5) dX4_paidInAll_2 rfl fl_X4_46 rfl rfl hT.1.ob hT.1.r12 ?_
  refine wk_cP1 (q := 8) dX4_paidInAll_5 rfl vl_X4_126 ⟨_, _, rfl⟩ hT.1.ob (ct_X4_sum hT hT.1.s12 hg hg2) (qRo_m ok_X4_sum (by decide) (Nat.le_refl _) (Nat.le_refl _)) (Nat.le_of_ble_eq_true rfl) (fun v5 hv5 => ?_)
  refine wk_iret dX4_paidInAll_8 rfl ⟨Nat.le_refl _, Nat.le_refl _⟩ rfl ?_
  refine ⟨_, _, _, _, rfl, rfl, rfl, rfl, rfl, ?_⟩
  exact hv5
theorem ct_X4_seatOf {t o : Nat} {se g s0 : Int} (hT : qTab E.2.2 n sh R t o) (hse : I t 5 = se) (hse2 : 0 ≤ se ∧ se ≤ 7) (hg : in32 g) (hb : ∀ s, 0 ≤ s → s < se → in32 (I (t + 15) s)) (hs0 : 0 ≤ s0 ∧ s0 < se) (hs1 : ∀ s, 0 ≤ s → s < se → (I (t + 15) s = g ↔ s = s0)) :
    Ct l E 0 mX4_seatOf [.ref t, .int (zI g)] (n, sh, I, L, R) 0 0 (qP n sh I L R (fun v => v = s0)) := by
  have loop : ∀ k : Nat, k ≤ se.toNat → Wk l E (qmo E 0 n 0 0 (qP n sh I L R (fun v => v = s0))) mX4_seatOf 0 0 4
      [(0, .ref t), (1, .int (zI g)), (2, .int (zI (if s0 < k then s0 else 0))), (3, .int (zI (k : Int)))] [] (n, sh, I, L, R) := by
    refine up_ind se.toNat ?_ ?_
    · skip
      refine wk_iload_n (i := 3) (q := 5) dX4_seatOf_4 rfl rfl rfl ?_
      refine wk_aload_n (i := 0) (q := 6) dX4_seatOf_5 rfl rfl rfl ?_
      refine wk_getI (fi := 5) (q := 9) dX4_seatOf_6 rfl fl_X4_52 rfl rfl hT.1.ob ?_
      refine wk_icmp_ge (t := 30) (q := 12) dX4_seatOf_9 rfl rfl (by omega) (by omega) (fun hc9 => ?_) (fun hc9 => ?_)
      · refine wk_iload_n (i := 2) (q := 31) dX4_seatOf_30 rfl rfl rfl ?_
        refine wk_iret dX4_seatOf_31 rfl ⟨Nat.le_refl _, Nat.le_refl _⟩ rfl ?_
        refine ⟨_, _, _, _, rfl, rfl, rfl, rfl, rfl, ?_⟩
        rw [if_pos (by omega)]
      · omega
    · rintro k hk ih
      have h1 := hb k (by omega) (by omega)
      have h2 := hs1 k (by omega) (by omega)
      refine wk_iload_n (i := 3) (q := 5) dX4_seatOf_4 rfl rfl rfl ?_
      refine wk_aload_n (i := 0) (q := 6) dX4_seatOf_5 rfl rfl rfl ?_
      refine wk_getI (fi := 5) (q := 9) dX4_seatOf_6 rfl fl_X4_52 rfl rfl hT.1.ob ?_
      refine wk_icmp_ge (t := 30) (q := 12) dX4_seatOf_9 rfl rfl (by omega) (by omega) (fun hc9 => ?_) (fun hc9 => ?_)
      · omega
      · refine wk_aload_n (i := 0) (q := 13) dX4_seatOf_12 rfl rfl rfl ?_
        refine wk_getR (fi := 1) (q := 16) dX4_seatOf_13 rfl fl_X4_18 rfl rfl hT.1.ob hT.1.r1 ?_
        refine wk_iload_n (i := 3) (q := 17) dX4_seatOf_16 rfl rfl rfl ?_
        refine wk_iald (q := 18) dX4_seatOf_17 rfl hT.1.s1 (by omega) ?_
        refine wk_iload_n (i := 1) (q := 19) dX4_seatOf_18 rfl rfl rfl ?_
        refine wk_icmp_ne (t := 24) (q := 22) dX4_seatOf_19 rfl rfl (by omega) (by omega) (fun hc19 => ?_) (fun hc19 => ?_)
        · refine wk_iinc (lo' := [(0, _), (1, _), (2, _), (3, _)]) (q := 27) dX4_seatOf_24 rfl rfl (by decide) rfl ?_
          refine wk_goto (t := 4) dX4_seatOf_27 rfl ?_
          first
          | (have hq : s0 = (k : Int) := by omega
             subst hq
             rw [if_pos (by omega)] at ih
             exact ih)
          | (have hq : s0 < (k : Int) := by omega
             rw [if_pos (by omega)] at ih
             rw [if_pos hq]
             exact ih)
          | (have hq : ¬ s0 < (k : Int) := by omega
             rw [if_neg (by omega)] at ih
             rw [if_neg hq]
             exact ih)
          | (have hc : s0 < (k : Int) ∨ (k : Int) < s0 := by omega
             rcases hc with hq | hq
             · rw [if_pos (by omega)] at ih
               rw [if_pos hq]
               exact ih
             · rw [if_neg (by omega)] at ih
               rw [if_neg (by omega)]
               exact ih)
        · refine wk_iload_n (i := 3) (q := 23) dX4_seatOf_22 rfl rfl rfl ?_
          refine wk_istore_n (i := 2) (lo' := [(0, _), (1, _), (2, _), (3, _)]) (q := 24) dX4_seatOf_23 rfl rfl (by decide) rfl ?_
          refine wk_iinc (lo' := [(0, _), (1, _), (2, _), (3, _)]) (q := 27) dX4_seatOf_24 rfl rfl (by decide) rfl ?_
          refine wk_goto (t := 4) dX4_seatOf_27 rfl ?_
          first
          | (have hq : s0 = (k : Int) := by omega
             subst hq
             rw [if_pos (by omega)] at ih
             exact ih)
          | (have hq : s0 < (k : Int) := by omega
             rw [if_pos (by omega)] at ih
             rw [if_pos hq]
             exact ih)
          | (have hq : ¬ s0 < (k : Int) := by omega
             rw [if_neg (by omega)] at ih
             rw [if_neg hq]
             exact ih)
          | (have hc : s0 < (k : Int) ∨ (k : Int) < s0 := by omega
             rcases hc with hq | hq
             · rw [if_pos (by omega)] at ih
               rw [if_pos hq]
               exact ih
             · rw [if_neg (by omega)] at ih
               rw [if_neg (by omega)]
               exact ih)
  refine Ct.of (lo := [(0, _), (1, _)]) ok_X4_seatOf (Nat.le_of_ble_eq_true rfl) rfl ?_
  have l0 := loop 0 (Nat.zero_le _)
  rw [if_neg (by omega)] at l0
  refine wk_iconst (q := 1) dX4_seatOf_0 rfl ?_
  refine wk_istore_n (i := 2) (lo' := [(0, _), (1, _), (2, _)]) (q := 2) dX4_seatOf_1 rfl rfl (by decide) rfl ?_
  refine wk_iconst (q := 3) dX4_seatOf_2 rfl ?_
  refine wk_istore_n (i := 3) (lo' := [(0, _), (1, _), (2, _), (3, _)]) (q := 4) dX4_seatOf_3 rfl rfl (by decide) rfl ?_
  exact l0
theorem ct_X4_isFor {t o : Nat} {g d : Int} (hT : qTab E.2.2 n sh R t o) (hg : 0 ≤ g ∧ g < 7) (hd : 0 ≤ d ∧ d < 6) (hw : in32 (I (o + 7 + g.toNat) d)) (hle : in32 (I (t + 26) d)) :
    Ct l E 1 mX4_isFor [.ref t, .int (zI g), .int (zI d)] (n, sh, I, L, R) 0 0 (qP n sh I L R (qBo (0 < I (t + 26) d ∧ I (o + 7 + g.toNat) d ≠ -1))) := by
  refine Ct.of (lo := [(0, _), (1, _), (2, _)]) ok_X4_isFor (Nat.le_of_ble_eq_true rfl) rfl ?_
  refine wk_aload_n (i := 0) (q := 1) dX4_isFor_0 rfl rfl rfl ?_
  refine wk_getR (fi := 9) (q := 4) dX4_isFor_1 rfl fl_X4_37 rfl rfl hT.1.ob hT.1.r9 ?_
  refine wk_iload_n (i := 2) (q := 5) dX4_isFor_4 rfl rfl rfl ?_
  refine wk_iald (q := 6) dX4_isFor_5 rfl hT.1.s9 (by omega) ?_
  refine wk_if_le (t := 25) (q := 9) dX4_isFor_6 rfl rfl (by omega) (fun hc6 => ?_) (fun hc6 => ?_)
  · refine wk_iconst (q := 26) dX4_isFor_25 rfl ?_
    refine wk_zret dX4_isFor_26 rfl (by omega) ⟨Nat.le_refl _, Nat.le_refl _⟩ rfl ?_
    refine ⟨_, _, _, _, rfl, rfl, rfl, rfl, rfl, ?_⟩
    unfold qBo
    omega
  · refine wk_aload_n (i := 0) (q := 10) dX4_isFor_9 rfl rfl rfl ?_
    refine wk_getR (fi := 0) (q := 13) dX4_isFor_10 rfl fl_X4_12 rfl rfl hT.1.ob hT.2.1 ?_
    refine wk_iload_n (i := 1) (q := 14) dX4_isFor_13 rfl rfl rfl ?_
    refine wk_iload_n (i := 2) (q := 15) dX4_isFor_14 rfl rfl rfl ?_
    refine wk_cP2 (q := 18) dX4_isFor_15 rfl vl_X4_83 ⟨_, _, rfl⟩ hT.2.2.ob (ct_X5_mayHave hT.2.2 hg hd hw) (qRo_m ok_X5_mayHave (by decide) (Nat.le_refl _) (Nat.le_refl _)) (Nat.le_of_ble_eq_true rfl) (fun v15 hv15 => ?_)
    rcases hv15 with ⟨rfl, hv15⟩ | ⟨rfl, hv15⟩
    · refine wk_if_eq (t := 25) (q := 21) dX4_isFor_18 rfl rfl (by omega) (fun hq => absurd hq (by decide)) (fun _ => ?_)
      refine wk_iconst (q := 22) dX4_isFor_21 rfl ?_
      refine wk_goto (t := 26) dX4_isFor_22 rfl ?_
      refine wk_zret dX4_isFor_26 rfl (by omega) ⟨Nat.le_refl _, Nat.le_refl _⟩ rfl ?_
      refine ⟨_, _, _, _, rfl, rfl, rfl, rfl, rfl, ?_⟩
      unfold qBo
      omega
    · refine wk_if_eq (t := 25) (q := 21) dX4_isFor_18 rfl rfl (by omega) (fun _ => ?_) (fun hq => absurd hq (by decide))
      refine wk_iconst (q := 26) dX4_isFor_25 rfl ?_
      refine wk_zret dX4_isFor_26 rfl (by omega) ⟨Nat.le_refl _, Nat.le_refl _⟩ rfl ?_
      refine ⟨_, _, _, _, rfl, rfl, rfl, rfl, rfl, ?_⟩
      unfold qBo
      omega
theorem ct_X4_isAnyFor {t o : Nat} {g nd : Int} (hT : qTab E.2.2 n sh R t o) (hg : 0 ≤ g ∧ g < 7) (hnd : I o 6 = nd) (hnd2 : 0 ≤ nd ∧ nd ≤ 6) (hb : ∀ d, 0 ≤ d → d < nd → in32 (I (o + 7 + g.toNat) d) ∧ in32 (I (t + 26) d)) :
    Ct l E 2 mX4_isAnyFor [.ref t, .int (zI g)] (n, sh, I, L, R) 0 0 (qP n sh I L R (qBo (∃ d : Int, 0 ≤ d ∧ d < nd ∧ 0 < I (t + 26) d ∧ I (o + 7 + g.toNat) d ≠ -1))) := by
  have loop : ∀ k : Nat, k ≤ nd.toNat → ∀ v : Int, qBo (∃ d : Int, 0 ≤ d ∧ d < k ∧ 0 < I (t + 26) d ∧ I (o + 7 + g.toNat) d ≠ -1) v → Wk l E (qmo E 2 n 0 0 (qP n sh I L R (qBo (∃ d : Int, 0 ≤ d ∧ d < nd ∧ 0 < I (t + 26) d ∧ I (o + 7 + g.toNat) d ≠ -1)))) mX4_isAnyFor 0 0 4
      [(0, .ref t), (1, .int (zI g)), (2, .int (zI v)), (3, .int (zI (k : Int)))] [] (n, sh, I, L, R) := by
    refine up_ind nd.toNat ?_ ?_
    · intro v hv
      have hvb : v = 0 ∨ v = 1 := by unfold qBo at hv; omega
      rw [show ((nd.toNat : Nat) : Int) = nd by omega] at hv ⊢
      refine wk_iload_n (i := 3) (q := 5) dX4_isAnyFor_4 rfl rfl rfl ?_
      refine wk_aload_n (i := 0) (q := 6) dX4_isAnyFor_5 rfl rfl rfl ?_
      refine wk_getR (fi := 0) (q := 9) dX4_isAnyFor_6 rfl fl_X4_12 rfl rfl hT.1.ob hT.2.1 ?_
      refine wk_getI (fi := 6) (q := 12) dX4_isAnyFor_9 rfl fl_X4_80 rfl rfl hT.2.2.ob ?_
      refine wk_icmp_ge (t := 40) (q := 15) dX4_isAnyFor_12 rfl rfl (by omega) (by omega) (fun hc12 => ?_) (fun hc12 => ?_)
      · refine wk_iload_n (i := 2) (q := 41) dX4_isAnyFor_40 rfl rfl rfl ?_
        refine wk_zret dX4_isAnyFor_41 rfl (by omega) ⟨Nat.le_refl _, Nat.le_refl _⟩ rfl ?_
        refine ⟨_, _, _, _, rfl, rfl, rfl, rfl, rfl, ?_⟩
        exact hv
      · omega
    · rintro k hk ih v hv
      have h1 := hb k (by omega) (by omega)
      have step : ∀ w : Int, (w = 1 → ∃ d : Int, 0 ≤ d ∧ d < (k + 1 : Nat) ∧ 0 < I (t + 26) d ∧ I (o + 7 + g.toNat) d ≠ -1) → (w = 0 → ¬ (∃ d : Int, 0 ≤ d ∧ d < (k : Nat) ∧ 0 < I (t + 26) d ∧ I (o + 7 + g.toNat) d ≠ -1) ∧ ¬ (0 < I (t + 26) k ∧ I (o + 7 + g.toNat) k ≠ -1)) → (w = 0 ∨ w = 1) → qBo (∃ d : Int, 0 ≤ d ∧ d < (k + 1 : Nat) ∧ 0 < I (t + 26) d ∧ I (o + 7 + g.toNat) d ≠ -1) w := by
        intro w w1 w0 hw
        rcases hw with hw | hw
        · refine Or.inr ⟨hw, fun ⟨d, d0, d1, d2⟩ => ?_⟩
          by_cases hd : d = k
          · subst hd
            exact (w0 hw).2 d2
          · exact (w0 hw).1 ⟨d, d0, by omega, d2⟩
        · exact Or.inl ⟨hw, w1 hw⟩
      rcases hv with ⟨rfl, hv⟩ | ⟨rfl, hv⟩
      · skip
        refine wk_iload_n (i := 3) (q := 5) dX4_isAnyFor_4 rfl rfl rfl ?_
        refine wk_aload_n (i := 0) (q := 6) dX4_isAnyFor_5 rfl rfl rfl ?_
        refine wk_getR (fi := 0) (q := 9) dX4_isAnyFor_6 rfl fl_X4_12 rfl rfl hT.1.ob hT.2.1 ?_
        refine wk_getI (fi := 6) (q := 12) dX4_isAnyFor_9 rfl fl_X4_80 rfl rfl hT.2.2.ob ?_
        refine wk_icmp_ge (t := 40) (q := 15) dX4_isAnyFor_12 rfl rfl (by omega) (by omega) (fun hc12 => ?_) (fun hc12 => ?_)
        · omega
        · refine wk_iload_n (i := 2) (q := 16) dX4_isAnyFor_15 rfl rfl rfl ?_
          refine wk_if_ne (t := 28) (q := 19) dX4_isAnyFor_16 rfl rfl (by omega) (fun _ => ?_) (fun hq => absurd hq (by decide))
          refine wk_iconst (q := 29) dX4_isAnyFor_28 rfl ?_
          refine wk_goto (t := 33) dX4_isAnyFor_29 rfl ?_
          refine wk_istore_n (i := 2) (lo' := [(0, _), (1, _), (2, _), (3, _)]) (q := 34) dX4_isAnyFor_33 rfl rfl (by decide) rfl ?_
          refine wk_iinc (lo' := [(0, _), (1, _), (2, _), (3, _)]) (q := 37) dX4_isAnyFor_34 rfl rfl (by decide) rfl ?_
          refine wk_goto (t := 4) dX4_isAnyFor_37 rfl ?_
          refine ih _ (step _ (fun _ => ?_) (fun q => absurd q (by decide)) (Or.inr rfl))
          obtain ⟨d, d0, d1, d2⟩ := hv
          exact ⟨d, d0, by omega, d2⟩
      · skip
        refine wk_iload_n (i := 3) (q := 5) dX4_isAnyFor_4 rfl rfl rfl ?_
        refine wk_aload_n (i := 0) (q := 6) dX4_isAnyFor_5 rfl rfl rfl ?_
        refine wk_getR (fi := 0) (q := 9) dX4_isAnyFor_6 rfl fl_X4_12 rfl rfl hT.1.ob hT.2.1 ?_
        refine wk_getI (fi := 6) (q := 12) dX4_isAnyFor_9 rfl fl_X4_80 rfl rfl hT.2.2.ob ?_
        refine wk_icmp_ge (t := 40) (q := 15) dX4_isAnyFor_12 rfl rfl (by omega) (by omega) (fun hc12 => ?_) (fun hc12 => ?_)
        · omega
        · refine wk_iload_n (i := 2) (q := 16) dX4_isAnyFor_15 rfl rfl rfl ?_
          refine wk_if_ne (t := 28) (q := 19) dX4_isAnyFor_16 rfl rfl (by omega) (fun hq => absurd hq (by decide)) (fun _ => ?_)
          refine wk_aload_n (i := 0) (q := 20) dX4_isAnyFor_19 rfl rfl rfl ?_
          refine wk_iload_n (i := 1) (q := 21) dX4_isAnyFor_20 rfl rfl rfl ?_
          refine wk_iload_n (i := 3) (q := 22) dX4_isAnyFor_21 rfl rfl rfl ?_
          refine wk_cP2 (q := 25) dX4_isAnyFor_22 rfl vl_X4_94 ⟨_, _, rfl⟩ hT.1.ob (ct_X4_isFor hT hg (by omega) h1.1 h1.2) (qRo_m ok_X4_isFor (by decide) (Nat.le_refl _) (Nat.le_refl _)) (Nat.le_of_ble_eq_true rfl) (fun v22 hv22 => ?_)
          rcases hv22 with ⟨rfl, hv22⟩ | ⟨rfl, hv22⟩
          · refine wk_if_eq (t := 32) (q := 28) dX4_isAnyFor_25 rfl rfl (by omega) (fun hq => absurd hq (by decide)) (fun _ => ?_)
            refine wk_iconst (q := 29) dX4_isAnyFor_28 rfl ?_
            refine wk_goto (t := 33) dX4_isAnyFor_29 rfl ?_
            refine wk_istore_n (i := 2) (lo' := [(0, _), (1, _), (2, _), (3, _)]) (q := 34) dX4_isAnyFor_33 rfl rfl (by decide) rfl ?_
            refine wk_iinc (lo' := [(0, _), (1, _), (2, _), (3, _)]) (q := 37) dX4_isAnyFor_34 rfl rfl (by decide) rfl ?_
            refine wk_goto (t := 4) dX4_isAnyFor_37 rfl ?_
            first
            | exact ih _ (step _ (fun _ => ⟨k, by omega, by omega, hv22⟩) (fun q => absurd q (by decide)) (Or.inr rfl))
            | exact ih _ (step _ (fun q => absurd q (by decide)) (fun _ => ⟨hv, hv22⟩) (Or.inl rfl))
          · refine wk_if_eq (t := 32) (q := 28) dX4_isAnyFor_25 rfl rfl (by omega) (fun _ => ?_) (fun hq => absurd hq (by decide))
            refine wk_iconst (q := 33) dX4_isAnyFor_32 rfl ?_
            refine wk_istore_n (i := 2) (lo' := [(0, _), (1, _), (2, _), (3, _)]) (q := 34) dX4_isAnyFor_33 rfl rfl (by decide) rfl ?_
            refine wk_iinc (lo' := [(0, _), (1, _), (2, _), (3, _)]) (q := 37) dX4_isAnyFor_34 rfl rfl (by decide) rfl ?_
            refine wk_goto (t := 4) dX4_isAnyFor_37 rfl ?_
            first
            | exact ih _ (step _ (fun _ => ⟨k, by omega, by omega, hv22⟩) (fun q => absurd q (by decide)) (Or.inr rfl))
            | exact ih _ (step _ (fun q => absurd q (by decide)) (fun _ => ⟨hv, hv22⟩) (Or.inl rfl))
  refine Ct.of (lo := [(0, _), (1, _)]) ok_X4_isAnyFor (Nat.le_of_ble_eq_true rfl) rfl ?_
  have l0 := loop 0 (Nat.zero_le _) 0 (Or.inr ⟨rfl, fun ⟨d, d0, d1, _⟩ => by omega⟩)
  refine wk_iconst (q := 1) dX4_isAnyFor_0 rfl ?_
  refine wk_istore_n (i := 2) (lo' := [(0, _), (1, _), (2, _)]) (q := 2) dX4_isAnyFor_1 rfl rfl (by decide) rfl ?_
  refine wk_iconst (q := 3) dX4_isAnyFor_2 rfl ?_
  refine wk_istore_n (i := 3) (lo' := [(0, _), (1, _), (2, _), (3, _)]) (q := 4) dX4_isAnyFor_3 rfl rfl (by decide) rfl ?_
  exact l0
end TABLE2
