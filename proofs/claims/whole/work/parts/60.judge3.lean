/-! the reference's judge -/
section JUDGE3
variable {l : Launch} {E : qEv} {n : Nat} {sh : qSh} {I L : qI} {R : qR}
theorem ct_X7_against {m : Nat} {V : VV} {k so i z : Int} (hM : qMod E.2.2 n sh R m) (hS : mSh I m V) (hV : V.shok) (hk : 0 ≤ k ∧ k < 4) (hso : 0 ≤ so ∧ so ≤ 2) (hi : in32 i) (hz : in32 z) :
    Ct l E 0 mX7_against [.ref m, .int (zI k), .int (zI so), .int (zI i), .int (zI z)] (n, sh, I, L, R) 0 0 (qP n sh I L R (fun v => v = refF V k so i z)) := by
  have s1 := hS.rg hV hk.1 hk.2
  obtain ⟨-, s2, -⟩ := hS k hk.1 hk.2
  have s3 := hV k hk.1 hk.2
  have fin : ∀ v : Int, (V.th k ≠ 1 → v = 1) → (V.th k = 1 → V.so k ≠ so → v = 2) → (V.th k = 1 → V.so k = so → z < 0 → v = 4) → (V.th k = 1 → V.so k = so → ¬ z < 0 → (0 ≤ i ∧ i ≤ V.sl k ∧ z ≤ V.sl k - i) → v = 0) → (V.th k = 1 → V.so k = so → ¬ z < 0 → ¬ (0 ≤ i ∧ i ≤ V.sl k ∧ z ≤ V.sl k - i) → v = 3) → v = refF V k so i z := by
    intro v a1 a2 a3 a4 a5
    unfold refF
    rw [if_neg (by omega), if_neg (by omega)]
    split
    · exact a1 (by omega)
    · split
      · exact a2 (by omega) (by omega)
      · split
        · exact a3 (by omega) (by omega) (by omega)
        · split
          · exact a4 (by omega) (by omega) (by omega) (by omega)
          · exact a5 (by omega) (by omega) (by omega) (by omega)
  refine Ct.of (lo := [(0, _), (1, _), (2, _), (3, _), (4, _)]) ok_X7_against (Nat.le_of_ble_eq_true rfl) rfl ?_
  refine wk_aload_n (i := 0) (q := 1) dX7_against_0 rfl rfl rfl ?_
  refine wk_getR (fi := 2) (q := 4) dX7_against_1 rfl fl_X7_9 rfl rfl hM.ob hM.r2 ?_
  refine wk_iload_n (i := 1) (q := 5) dX7_against_4 rfl rfl rfl ?_
  refine wk_iald (q := 6) dX7_against_5 rfl hM.s2 (by omega) ?_
  refine wk_bipush (q := 8) dX7_against_6 rfl (by decide +kernel) ?_
  refine wk_icmp_eq (t := 23) (q := 11) dX7_against_8 rfl rfl (by omega) (by omega) (fun hc8 => ?_) (fun hc8 => ?_)
  · refine wk_aload_n (i := 0) (q := 24) dX7_against_23 rfl rfl rfl ?_
    refine wk_getR (fi := 2) (q := 27) dX7_against_24 rfl fl_X7_9 rfl rfl hM.ob hM.r2 ?_
    refine wk_iload_n (i := 1) (q := 28) dX7_against_27 rfl rfl rfl ?_
    refine wk_iald (q := 29) dX7_against_28 rfl hM.s2 (by omega) ?_
    refine wk_bipush (q := 31) dX7_against_29 rfl (by decide +kernel) ?_
    refine wk_icmp_ne (t := 36) (q := 34) dX7_against_31 rfl rfl (by omega) (by omega) (fun hc31 => ?_) (fun hc31 => ?_)
    · refine wk_iload (i := 4) (q := 38) dX7_against_36 rfl rfl ?_
      refine wk_if_ge (t := 43) (q := 41) dX7_against_38 rfl rfl (by omega) (fun hc38 => ?_) (fun hc38 => ?_)
      · refine wk_iload_n (i := 3) (q := 44) dX7_against_43 rfl rfl rfl ?_
        refine wk_if_lt (t := 70) (q := 47) dX7_against_44 rfl rfl (by omega) (fun hc44 => ?_) (fun hc44 => ?_)
        · refine wk_iconst (q := 71) dX7_against_70 rfl ?_
          refine wk_goto (t := 75) dX7_against_71 rfl ?_
          refine wk_iret dX7_against_75 rfl ⟨Nat.le_refl _, Nat.le_refl _⟩ rfl ?_
          refine ⟨_, _, _, _, rfl, rfl, rfl, rfl, rfl, ?_⟩
          exact fin _ (fun _ => by omega) (fun _ _ => by omega) (fun _ _ _ => by omega) (fun _ _ _ _ => by omega) (fun _ _ _ _ => by omega)
        · refine wk_iload_n (i := 3) (q := 48) dX7_against_47 rfl rfl rfl ?_
          refine wk_aload_n (i := 0) (q := 49) dX7_against_48 rfl rfl rfl ?_
          refine wk_getR (fi := 3) (q := 52) dX7_against_49 rfl fl_X7_13 rfl rfl hM.ob hM.r3 ?_
          refine wk_iload_n (i := 1) (q := 53) dX7_against_52 rfl rfl rfl ?_
          refine wk_iald (q := 54) dX7_against_53 rfl hM.s3 (by omega) ?_
          rw [s2]
          refine wk_icmp_gt (t := 70) (q := 57) dX7_against_54 rfl rfl (by omega) (by omega) (fun hc54 => ?_) (fun hc54 => ?_)
          · refine wk_iconst (q := 71) dX7_against_70 rfl ?_
            refine wk_goto (t := 75) dX7_against_71 rfl ?_
            refine wk_iret dX7_against_75 rfl ⟨Nat.le_refl _, Nat.le_refl _⟩ rfl ?_
            refine ⟨_, _, _, _, rfl, rfl, rfl, rfl, rfl, ?_⟩
            exact fin _ (fun _ => by omega) (fun _ _ => by omega) (fun _ _ _ => by omega) (fun _ _ _ _ => by omega) (fun _ _ _ _ => by omega)
          · refine wk_iload (i := 4) (q := 59) dX7_against_57 rfl rfl ?_
            refine wk_aload_n (i := 0) (q := 60) dX7_against_59 rfl rfl rfl ?_
            refine wk_getR (fi := 3) (q := 63) dX7_against_60 rfl fl_X7_13 rfl rfl hM.ob hM.r3 ?_
            refine wk_iload_n (i := 1) (q := 64) dX7_against_63 rfl rfl rfl ?_
            refine wk_iald (q := 65) dX7_against_64 rfl hM.s3 (by omega) ?_
            refine wk_iload_n (i := 3) (q := 66) dX7_against_65 rfl rfl rfl ?_
            rw [s2]
            refine wk_isub (q := 67) dX7_against_66 rfl ?_
            refine wk_icmp_le (t := 74) (q := 70) dX7_against_67 rfl rfl (by omega) (by omega) (fun hc67 => ?_) (fun hc67 => ?_)
            · refine wk_iconst (q := 75) dX7_against_74 rfl ?_
              refine wk_iret dX7_against_75 rfl ⟨Nat.le_refl _, Nat.le_refl _⟩ rfl ?_
              refine ⟨_, _, _, _, rfl, rfl, rfl, rfl, rfl, ?_⟩
              exact fin _ (fun _ => by omega) (fun _ _ => by omega) (fun _ _ _ => by omega) (fun _ _ _ _ => by omega) (fun _ _ _ _ => by omega)
            · refine wk_iconst (q := 71) dX7_against_70 rfl ?_
              refine wk_goto (t := 75) dX7_against_71 rfl ?_
              refine wk_iret dX7_against_75 rfl ⟨Nat.le_refl _, Nat.le_refl _⟩ rfl ?_
              refine ⟨_, _, _, _, rfl, rfl, rfl, rfl, rfl, ?_⟩
              exact fin _ (fun _ => by omega) (fun _ _ => by omega) (fun _ _ _ => by omega) (fun _ _ _ _ => by omega) (fun _ _ _ _ => by omega)
      · refine wk_iconst (q := 42) dX7_against_41 rfl ?_
        refine wk_iret dX7_against_42 rfl ⟨Nat.le_refl _, Nat.le_refl _⟩ rfl ?_
        refine ⟨_, _, _, _, rfl, rfl, rfl, rfl, rfl, ?_⟩
        exact fin _ (fun _ => by omega) (fun _ _ => by omega) (fun _ _ _ => by omega) (fun _ _ _ _ => by omega) (fun _ _ _ _ => by omega)
    · refine wk_iconst (q := 35) dX7_against_34 rfl ?_
      refine wk_iret dX7_against_35 rfl ⟨Nat.le_refl _, Nat.le_refl _⟩ rfl ?_
      refine ⟨_, _, _, _, rfl, rfl, rfl, rfl, rfl, ?_⟩
      exact fin _ (fun _ => by omega) (fun _ _ => by omega) (fun _ _ _ => by omega) (fun _ _ _ _ => by omega) (fun _ _ _ _ => by omega)
  · refine wk_aload_n (i := 0) (q := 12) dX7_against_11 rfl rfl rfl ?_
    refine wk_getR (fi := 2) (q := 15) dX7_against_12 rfl fl_X7_9 rfl rfl hM.ob hM.r2 ?_
    refine wk_iload_n (i := 1) (q := 16) dX7_against_15 rfl rfl rfl ?_
    refine wk_iald (q := 17) dX7_against_16 rfl hM.s2 (by omega) ?_
    refine wk_iload_n (i := 2) (q := 18) dX7_against_17 rfl rfl rfl ?_
    refine wk_icmp_eq (t := 23) (q := 21) dX7_against_18 rfl rfl (by omega) (by omega) (fun hc18 => ?_) (fun hc18 => ?_)
    · refine wk_aload_n (i := 0) (q := 24) dX7_against_23 rfl rfl rfl ?_
      refine wk_getR (fi := 2) (q := 27) dX7_against_24 rfl fl_X7_9 rfl rfl hM.ob hM.r2 ?_
      refine wk_iload_n (i := 1) (q := 28) dX7_against_27 rfl rfl rfl ?_
      refine wk_iald (q := 29) dX7_against_28 rfl hM.s2 (by omega) ?_
      refine wk_bipush (q := 31) dX7_against_29 rfl (by decide +kernel) ?_
      refine wk_icmp_ne (t := 36) (q := 34) dX7_against_31 rfl rfl (by omega) (by omega) (fun hc31 => ?_) (fun hc31 => ?_)
      · refine wk_iload (i := 4) (q := 38) dX7_against_36 rfl rfl ?_
        refine wk_if_ge (t := 43) (q := 41) dX7_against_38 rfl rfl (by omega) (fun hc38 => ?_) (fun hc38 => ?_)
        · refine wk_iload_n (i := 3) (q := 44) dX7_against_43 rfl rfl rfl ?_
          refine wk_if_lt (t := 70) (q := 47) dX7_against_44 rfl rfl (by omega) (fun hc44 => ?_) (fun hc44 => ?_)
          · refine wk_iconst (q := 71) dX7_against_70 rfl ?_
            refine wk_goto (t := 75) dX7_against_71 rfl ?_
            refine wk_iret dX7_against_75 rfl ⟨Nat.le_refl _, Nat.le_refl _⟩ rfl ?_
            refine ⟨_, _, _, _, rfl, rfl, rfl, rfl, rfl, ?_⟩
            exact fin _ (fun _ => by omega) (fun _ _ => by omega) (fun _ _ _ => by omega) (fun _ _ _ _ => by omega) (fun _ _ _ _ => by omega)
          · refine wk_iload_n (i := 3) (q := 48) dX7_against_47 rfl rfl rfl ?_
            refine wk_aload_n (i := 0) (q := 49) dX7_against_48 rfl rfl rfl ?_
            refine wk_getR (fi := 3) (q := 52) dX7_against_49 rfl fl_X7_13 rfl rfl hM.ob hM.r3 ?_
            refine wk_iload_n (i := 1) (q := 53) dX7_against_52 rfl rfl rfl ?_
            refine wk_iald (q := 54) dX7_against_53 rfl hM.s3 (by omega) ?_
            rw [s2]
            refine wk_icmp_gt (t := 70) (q := 57) dX7_against_54 rfl rfl (by omega) (by omega) (fun hc54 => ?_) (fun hc54 => ?_)
            · refine wk_iconst (q := 71) dX7_against_70 rfl ?_
              refine wk_goto (t := 75) dX7_against_71 rfl ?_
              refine wk_iret dX7_against_75 rfl ⟨Nat.le_refl _, Nat.le_refl _⟩ rfl ?_
              refine ⟨_, _, _, _, rfl, rfl, rfl, rfl, rfl, ?_⟩
              exact fin _ (fun _ => by omega) (fun _ _ => by omega) (fun _ _ _ => by omega) (fun _ _ _ _ => by omega) (fun _ _ _ _ => by omega)
            · refine wk_iload (i := 4) (q := 59) dX7_against_57 rfl rfl ?_
              refine wk_aload_n (i := 0) (q := 60) dX7_against_59 rfl rfl rfl ?_
              refine wk_getR (fi := 3) (q := 63) dX7_against_60 rfl fl_X7_13 rfl rfl hM.ob hM.r3 ?_
              refine wk_iload_n (i := 1) (q := 64) dX7_against_63 rfl rfl rfl ?_
              refine wk_iald (q := 65) dX7_against_64 rfl hM.s3 (by omega) ?_
              refine wk_iload_n (i := 3) (q := 66) dX7_against_65 rfl rfl rfl ?_
              rw [s2]
              refine wk_isub (q := 67) dX7_against_66 rfl ?_
              refine wk_icmp_le (t := 74) (q := 70) dX7_against_67 rfl rfl (by omega) (by omega) (fun hc67 => ?_) (fun hc67 => ?_)
              · refine wk_iconst (q := 75) dX7_against_74 rfl ?_
                refine wk_iret dX7_against_75 rfl ⟨Nat.le_refl _, Nat.le_refl _⟩ rfl ?_
                refine ⟨_, _, _, _, rfl, rfl, rfl, rfl, rfl, ?_⟩
                exact fin _ (fun _ => by omega) (fun _ _ => by omega) (fun _ _ _ => by omega) (fun _ _ _ _ => by omega) (fun _ _ _ _ => by omega)
              · refine wk_iconst (q := 71) dX7_against_70 rfl ?_
                refine wk_goto (t := 75) dX7_against_71 rfl ?_
                refine wk_iret dX7_against_75 rfl ⟨Nat.le_refl _, Nat.le_refl _⟩ rfl ?_
                refine ⟨_, _, _, _, rfl, rfl, rfl, rfl, rfl, ?_⟩
                exact fin _ (fun _ => by omega) (fun _ _ => by omega) (fun _ _ _ => by omega) (fun _ _ _ _ => by omega) (fun _ _ _ _ => by omega)
        · refine wk_iconst (q := 42) dX7_against_41 rfl ?_
          refine wk_iret dX7_against_42 rfl ⟨Nat.le_refl _, Nat.le_refl _⟩ rfl ?_
          refine ⟨_, _, _, _, rfl, rfl, rfl, rfl, rfl, ?_⟩
          exact fin _ (fun _ => by omega) (fun _ _ => by omega) (fun _ _ _ => by omega) (fun _ _ _ _ => by omega) (fun _ _ _ _ => by omega)
      · refine wk_iconst (q := 35) dX7_against_34 rfl ?_
        refine wk_iret dX7_against_35 rfl ⟨Nat.le_refl _, Nat.le_refl _⟩ rfl ?_
        refine ⟨_, _, _, _, rfl, rfl, rfl, rfl, rfl, ?_⟩
        exact fin _ (fun _ => by omega) (fun _ _ => by omega) (fun _ _ _ => by omega) (fun _ _ _ _ => by omega) (fun _ _ _ _ => by omega)
    · refine wk_iconst (q := 22) dX7_against_21 rfl ?_
      refine wk_iret dX7_against_22 rfl ⟨Nat.le_refl _, Nat.le_refl _⟩ rfl ?_
      refine ⟨_, _, _, _, rfl, rfl, rfl, rfl, rfl, ?_⟩
      exact fin _ (fun _ => by omega) (fun _ _ => by omega) (fun _ _ _ => by omega) (fun _ _ _ _ => by omega) (fun _ _ _ _ => by omega)
theorem refRF {V : VV} {k so i z : Int} (hk : 0 ≤ k ∧ k < 4) (hso : 0 ≤ so ∧ so ≤ 2) : (refF V k so i z = 0 ∧ refR V k so i z = 0) ∨ (1 ≤ refF V k so i z ∧ refF V k so i z ≤ 4 ∧ refR V k so i z = -10 - refF V k so i z) := by
  have A : ¬ ¬ (0 ≤ k ∧ k < 4) := fun q => q hk
  have B : ¬ ¬ (0 ≤ so ∧ so ≤ 2) := fun q => q hso
  unfold refF refR
  rw [if_neg A, if_neg B, if_neg A, if_neg B]
  by_cases c1 : V.th k ≠ 1
  · rw [if_pos c1, if_pos c1]
    omega
  · rw [if_neg c1, if_neg c1]
    by_cases c2 : V.so k ≠ so
    · rw [if_pos c2, if_pos c2]
      omega
    · rw [if_neg c2, if_neg c2]
      by_cases c3 : z < 0
      · rw [if_pos c3, if_pos c3]
        omega
      · rw [if_neg c3, if_neg c3]
        by_cases c4 : 0 ≤ i ∧ i ≤ V.sl k ∧ z ≤ V.sl k - i
        · rw [if_pos c4, if_pos c4]
          omega
        · rw [if_neg c4, if_neg c4]
          omega
theorem ct_X7_mayBe {m : Nat} {T : TT} {Lf : Int → Int} {h c : Int} (hM : qMod E.2.2 n sh R m) (hok : T.ok) (hmT : mT I m T) (hh : 0 ≤ h ∧ h < T.ng) (hL : ∀ d, 0 ≤ d → d < T.nd → I (m + 25) d = Lf d ∧ in32 (Lf d)) (hc : c = -9 ∨ (0 ≤ c ∧ c < T.nd)) :
    Ct l E 0 mX7_mayBe [.ref m, .int (zI h), .int (zI c)] (n, sh, I, L, R) 0 0 (qP n sh I L R (qBo ((if c = -9 then 1 - anyF T Lf h T.nd.toNat else if 0 < Lf c ∧ T.wo h c ≠ -1 then 1 else 0) = 1))) := by
  have hn := hok.2.1
  have hnd := hok.2.2.2.1
  have hnd0 := hok.2.2.1
  have e6 := hmT.2.1
  have ew := (hmT.2.2.2 h hh.1 hh.2).2.2.2
  have bw := (hok.2.2.2.2.2 h hh.1 hh.2).2.2.2.2.2.2
  have loop : c = -9 → ∀ k : Nat, k ≤ T.nd.toNat → anyF T Lf h k = 0 → Wk l E (qmo E 0 n 0 0 (qP n sh I L R (qBo ((if c = -9 then 1 - anyF T Lf h T.nd.toNat else if 0 < Lf c ∧ T.wo h c ≠ -1 then 1 else 0) = 1)))) mX7_mayBe 0 0 38
      [(0, .ref m), (1, .int (zI h)), (2, .int (zI c)), (3, .int (zI (k : Int)))] [] (n, sh, I, L, R) := by
    intro hc9
    refine up_ind T.nd.toNat ?_ ?_
    · intro ha
      refine wk_iload_n (i := 3) (q := 39) dX7_mayBe_38 rfl rfl rfl ?_
      refine wk_aload_n (i := 0) (q := 40) dX7_mayBe_39 rfl rfl rfl ?_
      refine wk_getI (fi := 6) (q := 43) dX7_mayBe_40 rfl fl_X7_128 rfl rfl hM.ob ?_
      refine wk_icmp_ge (t := 78) (q := 46) dX7_mayBe_43 rfl rfl (by omega) (by omega) (fun hc43 => ?_) (fun hc43 => ?_)
      · refine wk_iconst (q := 79) dX7_mayBe_78 rfl ?_
        refine wk_zret dX7_mayBe_79 rfl (by omega) ⟨Nat.le_refl _, Nat.le_refl _⟩ rfl ?_
        refine ⟨_, _, _, _, rfl, rfl, rfl, rfl, rfl, ?_⟩
        rw [if_pos hc9, ha]
        exact Or.inl ⟨rfl, by decide⟩
      · omega
    · intro k hk ih ha
      have a1 := hL k (by omega) (by omega)
      have a2 := ew k (by omega) (by omega)
      have a3 := bw k (by omega) (by omega)
      have stay : ¬ (0 < Lf k ∧ T.wo h k ≠ -1) → anyF T Lf h (k + 1) = 0 := fun q => by
        unfold anyF
        rw [if_neg q]
        exact ha
      have hit : (0 < Lf k ∧ T.wo h k ≠ -1) → anyF T Lf h T.nd.toNat = 1 := fun q => by
        rcases anyF_in (T := T) (L := Lf) (h := h) T.nd.toNat with ⟨-, b⟩ | ⟨a, -⟩
        · exact absurd q (b k (by omega) (by omega))
        · exact a
      refine wk_iload_n (i := 3) (q := 39) dX7_mayBe_38 rfl rfl rfl ?_
      refine wk_aload_n (i := 0) (q := 40) dX7_mayBe_39 rfl rfl rfl ?_
      refine wk_getI (fi := 6) (q := 43) dX7_mayBe_40 rfl fl_X7_128 rfl rfl hM.ob ?_
      refine wk_icmp_ge (t := 78) (q := 46) dX7_mayBe_43 rfl rfl (by omega) (by omega) (fun hc43 => ?_) (fun hc43 => ?_)
      · omega
      · refine wk_aload_n (i := 0) (q := 47) dX7_mayBe_46 rfl rfl rfl ?_
        refine wk_getR (fi := 37) (q := 50) dX7_mayBe_47 rfl fl_X7_82 rfl rfl hM.ob hM.r37 ?_
        refine wk_iload_n (i := 3) (q := 51) dX7_mayBe_50 rfl rfl rfl ?_
        refine wk_iald (q := 52) dX7_mayBe_51 rfl hM.s37 (by omega) ?_
        rw [a1.1]
        refine wk_if_le (t := 72) (q := 55) dX7_mayBe_52 rfl rfl (by omega) (fun hc52 => ?_) (fun hc52 => ?_)
        · refine wk_iinc (lo' := [(0, _), (1, _), (2, _), (3, _)]) (q := 75) dX7_mayBe_72 rfl rfl (by decide) rfl ?_
          refine wk_goto (t := 38) dX7_mayBe_75 rfl ?_
          exact ih (stay (by omega))
        · refine wk_aload_n (i := 0) (q := 56) dX7_mayBe_55 rfl rfl rfl ?_
          refine wk_getR (fi := 12) (q := 59) dX7_mayBe_56 rfl fl_X7_34 rfl rfl hM.ob hM.r12 ?_
          refine wk_bipush (q := 61) dX7_mayBe_59 rfl (by decide +kernel) ?_
          refine wk_iload_n (i := 1) (q := 62) dX7_mayBe_61 rfl rfl rfl ?_
          refine wk_imul (q := 63) dX7_mayBe_62 rfl ?_
          refine wk_iload_n (i := 3) (q := 64) dX7_mayBe_63 rfl rfl rfl ?_
          refine wk_iadd (q := 65) dX7_mayBe_64 rfl ?_
          refine wk_iald (q := 66) dX7_mayBe_65 rfl hM.s12 (by omega) ?_
          refine wk_iconst (q := 67) dX7_mayBe_66 rfl ?_
          rw [a2]
          refine wk_icmp_eq (t := 72) (q := 70) dX7_mayBe_67 rfl rfl (by omega) (by omega) (fun hc67 => ?_) (fun hc67 => ?_)
          · refine wk_iinc (lo' := [(0, _), (1, _), (2, _), (3, _)]) (q := 75) dX7_mayBe_72 rfl rfl (by decide) rfl ?_
            refine wk_goto (t := 38) dX7_mayBe_75 rfl ?_
            exact ih (stay (by omega))
          · refine wk_iconst (q := 71) dX7_mayBe_70 rfl ?_
            refine wk_zret dX7_mayBe_71 rfl (by omega) ⟨Nat.le_refl _, Nat.le_refl _⟩ rfl ?_
            refine ⟨_, _, _, _, rfl, rfl, rfl, rfl, rfl, ?_⟩
            rw [if_pos hc9, hit (by omega)]
            exact Or.inr ⟨rfl, by decide⟩
  refine Ct.of (lo := [(0, _), (1, _), (2, _)]) ok_X7_mayBe (Nat.le_of_ble_eq_true rfl) rfl ?_
  have vc := fun (hc9 : c ≠ -9) => hL c (by omega) (by omega)
  have wc := fun (hc9 : c ≠ -9) => ew c (by omega) (by omega)
  have bc := fun (hc9 : c ≠ -9) => bw c (by omega) (by omega)
  refine wk_iload_n (i := 2) (q := 1) dX7_mayBe_0 rfl rfl rfl ?_
  refine wk_bipush (q := 3) dX7_mayBe_1 rfl (by decide +kernel) ?_
  refine wk_icmp_eq (t := 36) (q := 6) dX7_mayBe_3 rfl rfl (by omega) (by omega) (fun hc3 => ?_) (fun hc3 => ?_)
  · refine wk_iconst (q := 37) dX7_mayBe_36 rfl ?_
    refine wk_istore_n (i := 3) (lo' := [(0, _), (1, _), (2, _), (3, _)]) (q := 38) dX7_mayBe_37 rfl rfl (by decide) rfl ?_
    exact loop hc3 0 (Nat.zero_le _) rfl
  · refine wk_aload_n (i := 0) (q := 7) dX7_mayBe_6 rfl rfl rfl ?_
    refine wk_getR (fi := 37) (q := 10) dX7_mayBe_7 rfl fl_X7_82 rfl rfl hM.ob hM.r37 ?_
    refine wk_iload_n (i := 2) (q := 11) dX7_mayBe_10 rfl rfl rfl ?_
    refine wk_iald (q := 12) dX7_mayBe_11 rfl hM.s37 (by omega) ?_
    have v1 := vc hc3
    have v2 := wc hc3
    have v3 := bc hc3
    rw [v1.1]
    refine wk_if_le (t := 34) (q := 15) dX7_mayBe_12 rfl rfl (by omega) (fun hc12 => ?_) (fun hc12 => ?_)
    · refine wk_iconst (q := 35) dX7_mayBe_34 rfl ?_
      refine wk_zret dX7_mayBe_35 rfl (by omega) ⟨Nat.le_refl _, Nat.le_refl _⟩ rfl ?_
      refine ⟨_, _, _, _, rfl, rfl, rfl, rfl, rfl, ?_⟩
      rw [if_neg hc3]
      first
        | (rw [if_pos (by omega)]; exact Or.inl ⟨rfl, rfl⟩)
        | (rw [if_neg (by omega)]; exact Or.inr ⟨rfl, by decide⟩)
    · refine wk_aload_n (i := 0) (q := 16) dX7_mayBe_15 rfl rfl rfl ?_
      refine wk_getR (fi := 12) (q := 19) dX7_mayBe_16 rfl fl_X7_34 rfl rfl hM.ob hM.r12 ?_
      refine wk_bipush (q := 21) dX7_mayBe_19 rfl (by decide +kernel) ?_
      refine wk_iload_n (i := 1) (q := 22) dX7_mayBe_21 rfl rfl rfl ?_
      refine wk_imul (q := 23) dX7_mayBe_22 rfl ?_
      refine wk_iload_n (i := 2) (q := 24) dX7_mayBe_23 rfl rfl rfl ?_
      refine wk_iadd (q := 25) dX7_mayBe_24 rfl ?_
      refine wk_iald (q := 26) dX7_mayBe_25 rfl hM.s12 (by omega) ?_
      refine wk_iconst (q := 27) dX7_mayBe_26 rfl ?_
      rw [v2]
      refine wk_icmp_eq (t := 34) (q := 30) dX7_mayBe_27 rfl rfl (by omega) (by omega) (fun hc27 => ?_) (fun hc27 => ?_)
      · refine wk_iconst (q := 35) dX7_mayBe_34 rfl ?_
        refine wk_zret dX7_mayBe_35 rfl (by omega) ⟨Nat.le_refl _, Nat.le_refl _⟩ rfl ?_
        refine ⟨_, _, _, _, rfl, rfl, rfl, rfl, rfl, ?_⟩
        rw [if_neg hc3]
        first
          | (rw [if_pos (by omega)]; exact Or.inl ⟨rfl, rfl⟩)
          | (rw [if_neg (by omega)]; exact Or.inr ⟨rfl, by decide⟩)
      · refine wk_iconst (q := 31) dX7_mayBe_30 rfl ?_
        refine wk_goto (t := 35) dX7_mayBe_31 rfl ?_
        refine wk_zret dX7_mayBe_35 rfl (by omega) ⟨Nat.le_refl _, Nat.le_refl _⟩ rfl ?_
        refine ⟨_, _, _, _, rfl, rfl, rfl, rfl, rfl, ?_⟩
        rw [if_neg hc3]
        first
          | (rw [if_pos (by omega)]; exact Or.inl ⟨rfl, rfl⟩)
          | (rw [if_neg (by omega)]; exact Or.inr ⟨rfl, by decide⟩)
theorem om_judge {m : Nat} {V : VV} {k so i z : Int} (hM : qMod E.2.2 n sh R m) (h : MI I m V) (hk : in32 k) (hso : in32 so) (hi : in32 i) (hz : in32 z) :
    Ct l E 2 mX7_judge [.ref m, .int (zI k), .int (zI so), .int (zI i), .int (zI z)] (n, sh, I, L, R) 0 0 (qZ n sh (mpZ m I L R (r_judge V k so i z) (V.setFa (refF V k so i z)))) := by
  have hng := h.1.ng
  obtain ⟨e5, e6, -, -⟩ := h.2.2.2.2.2.1
  have loop2 : refR V k so i z = 0 → (0 ≤ k ∧ k < 4) → refF V k so i z = 0 → 0 < V.T.ng → z ≤ 56 → (badN V k i z.toNat = 0) → r_judge V k so i z = judN V k i z.toNat → ∀ j : Nat, j ≤ z.toNat → ∀ I1 : qI, frN (up I m 0 0) I1 m → (∀ d', 0 ≤ d' → d' < V.T.nd → I1 (m + 25) d' = judL V k i j d') → judN V k i j = -9 → Wk l E (qmo E 2 n 0 0 (qZ n sh (mpZ m I L R (r_judge V k so i z) (V.setFa (refF V k so i z))))) mX7_judge 0 0 139
      [(0, .ref m), (1, .int (zI k)), (2, .int (zI so)), (3, .int (zI i)), (4, .int (zI z)), (5, .int (zI 0)), (6, .int (zI (100 * k + i))), (7, .int (zI (j : Int)))] [] (n, sh, I1, L, R) := by
    intro hr hk4 hrf hp hz56 hbad hrj
    have r0 := refR_0 hr
    have sok := h.1.1 k hk4.1 hk4.2
    obtain ⟨t1, t2, t3⟩ := h.1.tab hp
    have hse := t2.2.1
    have st1 := t2.1.2.2.1
    have st2 := t2.1.2.2.2.1
    have h0 := h.fault 0
    refine up_ind z.toNat ?_ ?_
    · rintro I1 f1 f2 f3
      refine wk_iload (i := 7) (q := 141) dX7_judge_139 rfl rfl ?_
      refine wk_iload (i := 4) (q := 143) dX7_judge_141 rfl rfl ?_
      refine wk_icmp_ge (t := 220) (q := 146) dX7_judge_143 rfl rfl (by omega) (by omega) (fun hc143 => ?_) (fun hc143 => ?_)
      · refine wk_bipush (q := 222) dX7_judge_220 rfl (by decide +kernel) ?_
        refine wk_iret dX7_judge_222 rfl ⟨Nat.le_refl _, Nat.le_refl _⟩ rfl ?_
        refine ⟨_, _, _, _, rfl, rfl, by rw [hrj]; exact f3.symm, ?_, fun b y q => by rw [f1.o b y q, up_na _ _ _ _ (by omega)], rfl, rfl⟩
        rw [hrf]
        exact h0.fn f1
      · omega
    · rintro j hj ih I1 f1 f2 f3
      have h1 := h0.fn f1
      have hmT1 : mT I1 m V.T := h1.2.2.2.2.2.1
      have e5' := hmT1.1
      have hN1 := h1.2.2.2.2.2.2 hp
      have es : I1 m 16 = V.C.st := hN1.1
      have ecl : I1 (m + 3) (100 * k + i + j) = V.ce k (i + j) := by
        rw [show 100 * k + i + j = 100 * k + (i + j) by omega]
        exact (h1.2.2.2.2.1 k hk4.1 hk4.2).2.2 (i + j) (by omega) (by omega)
      have bcl := sok.2.2.2.2 (i + j) (by omega) (by omega)
      have hjc : jc V k i j = V.ce k (i + j) := rfl
      have hb := badN_no hbad (j := j) (by omega)
      rw [hjc] at hb
      have m1 := Int.emod_nonneg (j : Int) (by omega : V.T.ng ≠ 0)
      have m2 := Int.emod_lt_of_pos (j : Int) hp
      have n1 := Int.emod_nonneg ((j : Int) % V.T.ng + V.C.st) (by omega : V.T.ng ≠ 0)
      have n2 := Int.emod_lt_of_pos ((j : Int) % V.T.ng + V.C.st) hp
      have hjT : judT V j = tgt V.C ((j : Int) % V.T.ng) := rfl
      have tj : 0 ≤ judT V j ∧ judT V j < V.T.ng := tgt_in t2.1 ((j : Int) % V.T.ng)
      have eT : I1 (m + 11) (((j : Int) % V.T.ng + V.C.st) % V.T.ng) = judT V j := by
        rw [hN1.2.2.1 _ n1 n2, hjT]
        unfold tgt
        rw [hse]
        rfl
      have hLb : ∀ d', 0 ≤ d' → d' < V.T.nd → I1 (m + 25) d' = judL V k i j d' ∧ in32 (judL V k i j d') := fun d' d0 d1 => by
        have a1 := judL_in (V := V) (k := k) (i := i) j d'
        have a2 := t1.2.2.2.2.1 d' d0 d1
        exact ⟨f2 d' d0 d1, by omega⟩
      have hLn : judL V k i (j + 1) = if jc V k i j = -9 then judL V k i j else u1 (judL V k i j) (jc V k i j) (judL V k i j (jc V k i j) - 1) := rfl
      have hBn : judB V k i j = if jc V k i j = -9 then 1 - anyF V.T (judL V k i j) (judT V j) V.T.nd.toNat else if 0 < judL V k i j (jc V k i j) ∧ V.T.wo (judT V j) (jc V k i j) ≠ -1 then 1 else 0 := rfl
      rw [hjc] at hLn hBn
      refine wk_iload (i := 7) (q := 141) dX7_judge_139 rfl rfl ?_
      refine wk_iload (i := 4) (q := 143) dX7_judge_141 rfl rfl ?_
      refine wk_icmp_ge (t := 220) (q := 146) dX7_judge_143 rfl rfl (by omega) (by omega) (fun hc143 => ?_) (fun hc143 => ?_)
      · omega
      · refine wk_aload_n (i := 0) (q := 147) dX7_judge_146 rfl rfl rfl ?_
        refine wk_getR (fi := 14) (q := 150) dX7_judge_147 rfl fl_X7_40 rfl rfl hM.ob hM.r14 ?_
        refine wk_iload (i := 7) (q := 152) dX7_judge_150 rfl rfl ?_
        refine wk_aload_n (i := 0) (q := 153) dX7_judge_152 rfl rfl rfl ?_
        refine wk_getI (fi := 5) (q := 156) dX7_judge_153 rfl fl_X7_125 rfl rfl hM.ob ?_
        rw [e5']
        refine wk_irem (q := 157) dX7_judge_156 rfl (by omega) (by omega) ?_
        refine wk_aload_n (i := 0) (q := 158) dX7_judge_157 rfl rfl rfl ?_
        refine wk_getI (fi := 16) (q := 161) dX7_judge_158 rfl fl_X7_161 rfl rfl hM.ob ?_
        rw [es]
        refine wk_iadd (q := 162) dX7_judge_161 rfl ?_
        refine wk_aload_n (i := 0) (q := 163) dX7_judge_162 rfl rfl rfl ?_
        refine wk_getI (fi := 5) (q := 166) dX7_judge_163 rfl fl_X7_125 rfl rfl hM.ob ?_
        rw [e5']
        refine wk_irem (q := 167) dX7_judge_166 rfl (by omega) (by omega) ?_
        refine wk_iald (q := 168) dX7_judge_167 rfl hM.s14 (by omega) ?_
        rw [eT]
        refine wk_istore (i := 8) (lo' := [(0, _), (1, _), (2, _), (3, _), (4, _), (5, _), (6, _), (7, _), (8, _)]) (q := 170) dX7_judge_168 rfl (by decide) rfl ?_
        refine wk_aload_n (i := 0) (q := 171) dX7_judge_170 rfl rfl rfl ?_
        refine wk_getR (fi := 4) (q := 174) dX7_judge_171 rfl fl_X7_16 rfl rfl hM.ob hM.r4 ?_
        refine wk_iload (i := 6) (q := 176) dX7_judge_174 rfl rfl ?_
        refine wk_iload (i := 7) (q := 178) dX7_judge_176 rfl rfl ?_
        refine wk_iadd (q := 179) dX7_judge_178 rfl ?_
        refine wk_iald (q := 180) dX7_judge_179 rfl hM.s4 (by omega) ?_
        rw [ecl]
        refine wk_istore (i := 9) (lo' := [(0, _), (1, _), (2, _), (3, _), (4, _), (5, _), (6, _), (7, _), (8, _), (9, _)]) (q := 182) dX7_judge_180 rfl (by decide) rfl ?_
        refine wk_aload_n (i := 0) (q := 183) dX7_judge_182 rfl rfl rfl ?_
        refine wk_iload (i := 8) (q := 185) dX7_judge_183 rfl rfl ?_
        refine wk_iload (i := 9) (q := 187) dX7_judge_185 rfl rfl ?_
        refine wk_cP2 (q := 190) dX7_judge_187 rfl vl_X7_238 ⟨_, _, rfl⟩ hM.ob (ct_X7_mayBe (Lf := judL V k i j) hM t1 hmT1 tj hLb hb) (qRo_m ok_X7_mayBe (by decide) (Nat.le_refl _) (Nat.le_refl _)) (Nat.le_of_ble_eq_true rfl) (fun v187 hv187 => ?_)
        rcases hv187 with ⟨rfl, hv187⟩ | ⟨rfl, hv187⟩
        · rw [← hBn] at hv187
          refine wk_if_ne (t := 196) (q := 193) dX7_judge_190 rfl rfl (by omega) (fun _ => ?_) (fun hq => absurd hq (by decide))
          refine wk_iload (i := 9) (q := 198) dX7_judge_196 rfl rfl ?_
          refine wk_bipush (q := 200) dX7_judge_198 rfl (by decide +kernel) ?_
          refine wk_icmp_eq (t := 214) (q := 203) dX7_judge_200 rfl rfl (by omega) (by omega) (fun hc200 => ?_) (fun hc200 => ?_)
          · refine wk_iinc (lo' := [(0, _), (1, _), (2, _), (3, _), (4, _), (5, _), (6, _), (7, _), (8, _), (9, _)]) (q := 217) dX7_judge_214 rfl rfl (by decide) rfl ?_
            refine wk_goto (t := 139) dX7_judge_217 rfl ?_
            refine wk_del (i := 9) (lo' := [(0, _), (1, _), (2, _), (3, _), (4, _), (5, _), (6, _), (7, _), (8, _)]) rfl ?_
            refine wk_del (i := 8) (lo' := [(0, _), (1, _), (2, _), (3, _), (4, _), (5, _), (6, _), (7, _)]) rfl ?_
            first
            | (refine ih _ f1 (fun d' d0 d1 => ?_) (judN_go f3 hv187)
               rw [hLn, if_pos hc200]
               exact f2 d' d0 d1)
            | (refine ih _ (fun b y q0 q1 => by rw [up_na _ _ _ _ (by omega)]; exact f1 b y q0 q1) (fun d' d0 d1 => ?_) (judN_go f3 hv187)
               rw [hLn, if_neg hc200]
               by_cases hq : d' = V.ce k (i + j)
               · rw [hq, up_eq, u1_eq, f2 _ (by omega) (by omega)]
               · rw [up_ni _ _ hq, u1_ne hq]
                 exact f2 d' d0 d1)
          · refine wk_aload_n (i := 0) (q := 204) dX7_judge_203 rfl rfl rfl ?_
            refine wk_getR (fi := 37) (q := 207) dX7_judge_204 rfl fl_X7_82 rfl rfl hM.ob hM.r37 ?_
            refine wk_iload (i := 9) (q := 209) dX7_judge_207 rfl rfl ?_
            refine wk_dup2 (q := 210) dX7_judge_209 rfl rfl rfl ?_
            refine wk_iald (q := 211) dX7_judge_210 rfl hM.s37 (by omega) ?_
            refine wk_iconst (q := 212) dX7_judge_211 rfl ?_
            refine wk_isub (q := 213) dX7_judge_212 rfl ?_
            refine wk_iast (q := 214) dX7_judge_213 rfl hM.s37 (by omega) ?_
            refine wk_iinc (lo' := [(0, _), (1, _), (2, _), (3, _), (4, _), (5, _), (6, _), (7, _), (8, _), (9, _)]) (q := 217) dX7_judge_214 rfl rfl (by decide) rfl ?_
            refine wk_goto (t := 139) dX7_judge_217 rfl ?_
            refine wk_del (i := 9) (lo' := [(0, _), (1, _), (2, _), (3, _), (4, _), (5, _), (6, _), (7, _), (8, _)]) rfl ?_
            refine wk_del (i := 8) (lo' := [(0, _), (1, _), (2, _), (3, _), (4, _), (5, _), (6, _), (7, _)]) rfl ?_
            first
            | (refine ih _ f1 (fun d' d0 d1 => ?_) (judN_go f3 hv187)
               rw [hLn, if_pos hc200]
               exact f2 d' d0 d1)
            | (refine ih _ (fun b y q0 q1 => by rw [up_na _ _ _ _ (by omega)]; exact f1 b y q0 q1) (fun d' d0 d1 => ?_) (judN_go f3 hv187)
               rw [hLn, if_neg hc200]
               by_cases hq : d' = V.ce k (i + j)
               · rw [hq, up_eq, u1_eq, f2 _ (by omega) (by omega)]
               · rw [up_ni _ _ hq, u1_ne hq]
                 exact f2 d' d0 d1)
        · rw [← hBn] at hv187
          refine wk_if_ne (t := 196) (q := 193) dX7_judge_190 rfl rfl (by omega) (fun hq => absurd hq (by decide)) (fun _ => ?_)
          refine wk_iload (i := 7) (q := 195) dX7_judge_193 rfl rfl ?_
          refine wk_iret dX7_judge_195 rfl ⟨Nat.le_refl _, Nat.le_refl _⟩ rfl ?_
          refine ⟨_, _, _, _, rfl, rfl, by rw [hrj]; exact (judN_no f3 hv187 (by omega)).symm, ?_, fun b y q => by rw [f1.o b y q, up_na _ _ _ _ (by omega)], rfl, rfl⟩
          rw [hrf]
          exact h1
  have loop1 : refR V k so i z = 0 → (0 ≤ k ∧ k < 4) → refF V k so i z = 0 → 0 < V.T.ng → z ≤ V.C.co * V.T.ng → ∀ j : Nat, j ≤ z.toNat → badN V k i j = 0 → Wk l E (qmo E 2 n 0 0 (qZ n sh (mpZ m I L R (r_judge V k so i z) (V.setFa (refF V k so i z))))) mX7_judge 0 0 85
      [(0, .ref m), (1, .int (zI k)), (2, .int (zI so)), (3, .int (zI i)), (4, .int (zI z)), (5, .int (zI 0)), (6, .int (zI (100 * k + i))), (7, .int (zI (j : Int)))] [] (n, sh, up I m 0 0, L, R) := by
    intro hr hk4 hrf hp hzc
    have r0 := refR_0 hr
    have sok := h.1.1 k hk4.1 hk4.2
    obtain ⟨t1, t2, t3⟩ := h.1.tab hp
    have co8 := t2.1.2.2.2.2.2.1
    have co1 := t2.1.2.2.2.2.1
    have h0 := h.fault 0
    have hz56 : z ≤ 56 := by
      have h1 : V.C.co * V.T.ng ≤ 8 * V.T.ng := Int.mul_le_mul_of_nonneg_right co8 (by omega)
      omega
    have e6' : up I m 0 0 m 6 = V.T.nd := by rw [up_off (by omega)]; exact e6
    have hrj : badN V k i z.toNat = 0 → r_judge V k so i z = judN V k i z.toNat := by
      intro q
      unfold r_judge
      rw [if_neg (fun c => c hr), if_neg (fun c => c hp), if_neg (by omega), if_neg (by omega)]
    have hrb : badN V k i z.toNat = 1 → r_judge V k so i z = -1 := by
      intro q
      unfold r_judge
      rw [if_neg (fun c => c hr), if_neg (fun c => c hp), if_neg (by omega), if_pos q]
    refine up_ind z.toNat ?_ ?_
    · intro hb
      refine wk_iload (i := 7) (q := 87) dX7_judge_85 rfl rfl ?_
      refine wk_iload (i := 4) (q := 89) dX7_judge_87 rfl rfl ?_
      refine wk_icmp_ge (t := 132) (q := 92) dX7_judge_89 rfl rfl (by omega) (by omega) (fun hc89 => ?_) (fun hc89 => ?_)
      · refine wk_aload_n (i := 0) (q := 133) dX7_judge_132 rfl rfl rfl ?_
        refine wk_cV0 (q := 136) dX7_judge_133 rfl vl_X7_213 ⟨_, _, rfl⟩ hM.ob (ct_X7_refill hM t1 h0.2.2.2.2.2.1) (qRo_m ok_X7_refill (by decide) (Nat.le_refl _) (Nat.le_refl _)) (Nat.le_of_ble_eq_true rfl) (fun I133 L133 R133 hv133 => ?_)
        obtain ⟨rfl, rfl, g1, g2⟩ := hv133
        refine wk_iconst (q := 137) dX7_judge_136 rfl ?_
        refine wk_istore (i := 7) (lo' := [(0, _), (1, _), (2, _), (3, _), (4, _), (5, _), (6, _), (7, _)]) (q := 139) dX7_judge_137 rfl (by decide) rfl ?_
        exact loop2 hr hk4 hrf hp hz56 hb (hrj hb) 0 (Nat.zero_le _) _ (fun b y q0 q1 => g1 b y (by omega)) g2 rfl
      · omega
    · intro j hj ih hb
      have ecl : up I m 0 0 (m + 3) (100 * k + i + j) = V.ce k (i + j) := by
        rw [show 100 * k + i + j = 100 * k + (i + j) by omega]
        exact (h0.2.2.2.2.1 k hk4.1 hk4.2).2.2 (i + j) (by omega) (by omega)
      have bcl := sok.2.2.2.2 (i + j) (by omega) (by omega)
      have hjc : jc V k i j = V.ce k (i + j) := rfl
      refine wk_iload (i := 7) (q := 87) dX7_judge_85 rfl rfl ?_
      refine wk_iload (i := 4) (q := 89) dX7_judge_87 rfl rfl ?_
      refine wk_icmp_ge (t := 132) (q := 92) dX7_judge_89 rfl rfl (by omega) (by omega) (fun hc89 => ?_) (fun hc89 => ?_)
      · omega
      · refine wk_aload_n (i := 0) (q := 93) dX7_judge_92 rfl rfl rfl ?_
        refine wk_getR (fi := 4) (q := 96) dX7_judge_93 rfl fl_X7_16 rfl rfl hM.ob hM.r4 ?_
        refine wk_iload (i := 6) (q := 98) dX7_judge_96 rfl rfl ?_
        refine wk_iload (i := 7) (q := 100) dX7_judge_98 rfl rfl ?_
        refine wk_iadd (q := 101) dX7_judge_100 rfl ?_
        refine wk_iald (q := 102) dX7_judge_101 rfl hM.s4 (by omega) ?_
        rw [ecl]
        refine wk_bipush (q := 104) dX7_judge_102 rfl (by decide +kernel) ?_
        refine wk_icmp_eq (t := 126) (q := 107) dX7_judge_104 rfl rfl (by omega) (by omega) (fun hc104 => ?_) (fun hc104 => ?_)
        · refine wk_iinc (lo' := [(0, _), (1, _), (2, _), (3, _), (4, _), (5, _), (6, _), (7, _)]) (q := 129) dX7_judge_126 rfl rfl (by decide) rfl ?_
          refine wk_goto (t := 85) dX7_judge_129 rfl ?_
          first
          | exact ih (badN_go hb (Or.inl hc104))
          | exact ih (badN_go hb (Or.inr hv118))
        · refine wk_aload_n (i := 0) (q := 108) dX7_judge_107 rfl rfl rfl ?_
          refine wk_aload_n (i := 0) (q := 109) dX7_judge_108 rfl rfl rfl ?_
          refine wk_getR (fi := 4) (q := 112) dX7_judge_109 rfl fl_X7_16 rfl rfl hM.ob hM.r4 ?_
          refine wk_iload (i := 6) (q := 114) dX7_judge_112 rfl rfl ?_
          refine wk_iload (i := 7) (q := 116) dX7_judge_114 rfl rfl ?_
          refine wk_iadd (q := 117) dX7_judge_116 rfl ?_
          refine wk_iald (q := 118) dX7_judge_117 rfl hM.s4 (by omega) ?_
          rw [ecl]
          refine wk_cP1 (q := 121) dX7_judge_118 rfl vl_X7_181 ⟨_, _, rfl⟩ hM.ob (ct_X7_isDish hM bcl (by omega)) (qRo_m ok_X7_isDish (by decide) (Nat.le_refl _) (Nat.le_refl _)) (Nat.le_of_ble_eq_true rfl) (fun v118 hv118 => ?_)
          rcases hv118 with ⟨rfl, hv118⟩ | ⟨rfl, hv118⟩
          · rw [e6'] at hv118
            refine wk_if_ne (t := 126) (q := 124) dX7_judge_121 rfl rfl (by omega) (fun _ => ?_) (fun hq => absurd hq (by decide))
            refine wk_iinc (lo' := [(0, _), (1, _), (2, _), (3, _), (4, _), (5, _), (6, _), (7, _)]) (q := 129) dX7_judge_126 rfl rfl (by decide) rfl ?_
            refine wk_goto (t := 85) dX7_judge_129 rfl ?_
            first
            | exact ih (badN_go hb (Or.inl hc104))
            | exact ih (badN_go hb (Or.inr hv118))
          · rw [e6'] at hv118
            refine wk_if_ne (t := 126) (q := 124) dX7_judge_121 rfl rfl (by omega) (fun hq => absurd hq (by decide)) (fun _ => ?_)
            refine wk_iconst (q := 125) dX7_judge_124 rfl ?_
            refine wk_iret dX7_judge_125 rfl ⟨Nat.le_refl _, Nat.le_refl _⟩ rfl ?_
            refine ⟨_, _, _, _, rfl, rfl, ?_, ?_, frO_up _ _ (by omega), rfl, rfl⟩
            · exact (hrb (badN_bad hb hc104 hv118 (by omega))).symm
            · rw [hrf]
              exact h0
  refine Ct.of (lo := [(0, _), (1, _), (2, _), (3, _), (4, _)]) ok_X7_judge (Nat.le_of_ble_eq_true rfl) rfl ?_
  have e5' : up I m 0 0 m 5 = V.T.ng := by rw [up_off (by omega)]; exact e5
  refine wk_aload_n (i := 0) (q := 1) dX7_judge_0 rfl rfl rfl ?_
  refine wk_iconst (q := 2) dX7_judge_1 rfl ?_
  refine wk_putI (fi := 0) (q := 5) dX7_judge_2 rfl fl_X7_115 fw_7_0 rfl rfl hM.ob ?_
  refine wk_iload_n (i := 1) (q := 6) dX7_judge_5 rfl rfl rfl ?_
  refine wk_sP1 (q := 9) dX7_judge_6 rfl sl_X7_134 (ct_X7_isSheet hk) (qRo_m ok_X7_isSheet (by decide) (Nat.le_refl _) (Nat.le_refl _)) (Nat.le_of_ble_eq_true rfl) (fun v6 hv6 => ?_)
  rcases hv6 with ⟨rfl, hv6⟩ | ⟨rfl, hv6⟩
  · refine wk_if_ne (t := 14) (q := 12) dX7_judge_9 rfl rfl (by omega) (fun _ => ?_) (fun hq => absurd hq (by decide))
    refine wk_iload_n (i := 2) (q := 15) dX7_judge_14 rfl rfl rfl ?_
    refine wk_sP1 (q := 18) dX7_judge_15 rfl sl_X7_138 (ct_X7_isSort hso) (qRo_m ok_X7_isSort (by decide) (Nat.le_refl _) (Nat.le_refl _)) (Nat.le_of_ble_eq_true rfl) (fun v15 hv15 => ?_)
    rcases hv15 with ⟨rfl, hv15⟩ | ⟨rfl, hv15⟩
    · refine wk_if_ne (t := 24) (q := 21) dX7_judge_18 rfl rfl (by omega) (fun _ => ?_) (fun hq => absurd hq (by decide))
      refine wk_aload_n (i := 0) (q := 25) dX7_judge_24 rfl rfl rfl ?_
      refine wk_iload_n (i := 1) (q := 26) dX7_judge_25 rfl rfl rfl ?_
      refine wk_iload_n (i := 2) (q := 27) dX7_judge_26 rfl rfl rfl ?_
      refine wk_iload_n (i := 3) (q := 28) dX7_judge_27 rfl rfl rfl ?_
      refine wk_iload (i := 4) (q := 30) dX7_judge_28 rfl rfl ?_
      have rf := refRF (V := V) (i := i) (z := z) hv6 hv15
      refine wk_cP4 (q := 33) dX7_judge_30 rfl vl_X7_141 ⟨_, _, rfl⟩ hM.ob (ct_X7_against hM (h.fault 0).sh h.1.1 hv6 hv15 hi hz) (qRo_m ok_X7_against (by decide) (Nat.le_refl _) (Nat.le_refl _)) (Nat.le_of_ble_eq_true rfl) (fun v30 hv30 => ?_)
      have hv30' : v30 = refF V k so i z := hv30
      refine wk_istore (i := 5) (lo' := [(0, _), (1, _), (2, _), (3, _), (4, _), (5, _)]) (q := 35) dX7_judge_33 rfl (by decide) rfl ?_
      refine wk_iload (i := 5) (q := 37) dX7_judge_35 rfl rfl ?_
      refine wk_if_eq (t := 47) (q := 40) dX7_judge_37 rfl rfl (by omega) (fun hc37 => ?_) (fun hc37 => ?_)
      · refine wk_aload_n (i := 0) (q := 48) dX7_judge_47 rfl rfl rfl ?_
        refine wk_cP0 (q := 51) dX7_judge_48 rfl vl_X7_190 ⟨_, _, rfl⟩ hM.ob (ct_X7_isTable hM (by omega)) (qRo_m ok_X7_isTable (by decide) (Nat.le_refl _) (Nat.le_refl _)) (Nat.le_of_ble_eq_true rfl) (fun v48 hv48 => ?_)
        rcases hv48 with ⟨rfl, hv48⟩ | ⟨rfl, hv48⟩
        · rw [e5'] at hv48
          refine wk_if_ne (t := 57) (q := 54) dX7_judge_51 rfl rfl (by omega) (fun _ => ?_) (fun hq => absurd hq (by decide))
          refine wk_iload (i := 4) (q := 59) dX7_judge_57 rfl rfl ?_
          refine wk_aload_n (i := 0) (q := 60) dX7_judge_59 rfl rfl rfl ?_
          refine wk_getI (fi := 17) (q := 63) dX7_judge_60 rfl fl_X7_164 rfl rfl hM.ob ?_
          refine wk_aload_n (i := 0) (q := 64) dX7_judge_63 rfl rfl rfl ?_
          refine wk_getI (fi := 5) (q := 67) dX7_judge_64 rfl fl_X7_125 rfl rfl hM.ob ?_
          obtain ⟨t1, t2, t3⟩ := h.1.tab hv48
          have co8 := t2.1.2.2.2.2.2.1
          have co1 := t2.1.2.2.2.2.1
          have ec : up I m 0 0 m 17 = V.C.co := by rw [up_off (by omega)]; exact (h.2.2.2.2.2.2 hv48).2.1
          have m1 : V.C.co * V.T.ng ≤ 8 * V.T.ng := Int.mul_le_mul_of_nonneg_right co8 (by omega)
          have m2 : 0 ≤ V.C.co * V.T.ng := Int.mul_nonneg (by omega) (by omega)
          rw [ec, e5']
          refine wk_imul (q := 68) dX7_judge_67 rfl ?_
          refine wk_icmp_le (t := 74) (q := 71) dX7_judge_68 rfl rfl (by omega) (by omega) (fun hc68 => ?_) (fun hc68 => ?_)
          · refine wk_bipush (q := 76) dX7_judge_74 rfl (by decide +kernel) ?_
            refine wk_iload_n (i := 1) (q := 77) dX7_judge_76 rfl rfl rfl ?_
            have r0 := refR_0 (V := V) (k := k) (so := so) (i := i) (z := z) (by omega)
            have s3 := (h.1.1 k hv6.1 hv6.2).2.2
            refine wk_imul (q := 78) dX7_judge_77 rfl ?_
            refine wk_iload_n (i := 3) (q := 79) dX7_judge_78 rfl rfl rfl ?_
            refine wk_iadd (q := 80) dX7_judge_79 rfl ?_
            refine wk_istore (i := 6) (lo' := [(0, _), (1, _), (2, _), (3, _), (4, _), (5, _), (6, _)]) (q := 82) dX7_judge_80 rfl (by decide) rfl ?_
            refine wk_iconst (q := 83) dX7_judge_82 rfl ?_
            refine wk_istore (i := 7) (lo' := [(0, _), (1, _), (2, _), (3, _), (4, _), (5, _), (6, _), (7, _)]) (q := 85) dX7_judge_83 rfl (by decide) rfl ?_
            have z0 : v30 = 0 := hc37
            rw [z0]
            exact loop1 (by omega) hv6 (by omega) hv48 (by omega) 0 (Nat.zero_le _) rfl
          · refine wk_bipush (q := 73) dX7_judge_71 rfl (by decide +kernel) ?_
            refine wk_iret dX7_judge_73 rfl ⟨Nat.le_refl _, Nat.le_refl _⟩ rfl ?_
            refine mp_fault h rfl ?_ ?_
            · first
                | (rw [hv30'])
                | (rw [show refF V k so i z = 0 by omega])
                | (unfold refF; rw [if_pos hv6])
                | (unfold refF; rw [if_neg (fun q => q hv6), if_pos hv15])
            · unfold r_judge
              first
                | (rw [if_pos (by omega)]; omega)
                | (have q1 : refR V k so i z = -1 := by
                     unfold refR
                     rw [if_pos hv6]
                   rw [if_pos (by omega)]
                   omega)
                | (have q1 : refR V k so i z = -2 := by
                     unfold refR
                     rw [if_neg (fun q => q hv6), if_pos hv15]
                   rw [if_pos (by omega)]
                   omega)
                | rw [if_neg (by omega), if_pos hv48]
                | rw [if_neg (by omega), if_neg (fun c => c hv48), if_pos (by omega)]
        · rw [e5'] at hv48
          refine wk_if_ne (t := 57) (q := 54) dX7_judge_51 rfl rfl (by omega) (fun hq => absurd hq (by decide)) (fun _ => ?_)
          refine wk_bipush (q := 56) dX7_judge_54 rfl (by decide +kernel) ?_
          refine wk_iret dX7_judge_56 rfl ⟨Nat.le_refl _, Nat.le_refl _⟩ rfl ?_
          refine mp_fault h rfl ?_ ?_
          · first
              | (rw [hv30'])
              | (rw [show refF V k so i z = 0 by omega])
              | (unfold refF; rw [if_pos hv6])
              | (unfold refF; rw [if_neg (fun q => q hv6), if_pos hv15])
          · unfold r_judge
            first
              | (rw [if_pos (by omega)]; omega)
              | (have q1 : refR V k so i z = -1 := by
                   unfold refR
                   rw [if_pos hv6]
                 rw [if_pos (by omega)]
                 omega)
              | (have q1 : refR V k so i z = -2 := by
                   unfold refR
                   rw [if_neg (fun q => q hv6), if_pos hv15]
                 rw [if_pos (by omega)]
                 omega)
              | rw [if_neg (by omega), if_pos hv48]
              | rw [if_neg (by omega), if_neg (fun c => c hv48), if_pos (by omega)]
      · refine wk_aload_n (i := 0) (q := 41) dX7_judge_40 rfl rfl rfl ?_
        refine wk_iload (i := 5) (q := 43) dX7_judge_41 rfl rfl ?_
        refine wk_cZ1 (q := 46) dX7_judge_43 rfl vl_X7_145 ⟨_, _, rfl⟩ hM.ob (ct_X7_fails hM) (qRo_m ok_X7_fails (by decide) (Nat.le_refl _) (Nat.le_refl _)) (Nat.le_of_ble_eq_true rfl) (fun v43 I43 L43 R43 hv43 => ?_)
        obtain ⟨rfl, rfl, rfl, rfl⟩ := hv43
        rw [up2_0]
        refine wk_iret dX7_judge_46 rfl ⟨Nat.le_refl _, Nat.le_refl _⟩ rfl ?_
        refine mp_fault h rfl ?_ ?_
        · first
            | (rw [hv30'])
            | (rw [show refF V k so i z = 0 by omega])
            | (unfold refF; rw [if_pos hv6])
            | (unfold refF; rw [if_neg (fun q => q hv6), if_pos hv15])
        · unfold r_judge
          first
            | (rw [if_pos (by omega)]; omega)
            | (have q1 : refR V k so i z = -1 := by
                 unfold refR
                 rw [if_pos hv6]
               rw [if_pos (by omega)]
               omega)
            | (have q1 : refR V k so i z = -2 := by
                 unfold refR
                 rw [if_neg (fun q => q hv6), if_pos hv15]
               rw [if_pos (by omega)]
               omega)
            | rw [if_neg (by omega), if_pos hv48]
            | rw [if_neg (by omega), if_neg (fun c => c hv48), if_pos (by omega)]
    · refine wk_if_ne (t := 24) (q := 21) dX7_judge_18 rfl rfl (by omega) (fun hq => absurd hq (by decide)) (fun _ => ?_)
      refine wk_bipush (q := 23) dX7_judge_21 rfl (by decide +kernel) ?_
      refine wk_iret dX7_judge_23 rfl ⟨Nat.le_refl _, Nat.le_refl _⟩ rfl ?_
      refine mp_fault h rfl ?_ ?_
      · first
          | (rw [hv30'])
          | (rw [show refF V k so i z = 0 by omega])
          | (unfold refF; rw [if_pos hv6])
          | (unfold refF; rw [if_neg (fun q => q hv6), if_pos hv15])
      · unfold r_judge
        first
          | (rw [if_pos (by omega)]; omega)
          | (have q1 : refR V k so i z = -1 := by
               unfold refR
               rw [if_pos hv6]
             rw [if_pos (by omega)]
             omega)
          | (have q1 : refR V k so i z = -2 := by
               unfold refR
               rw [if_neg (fun q => q hv6), if_pos hv15]
             rw [if_pos (by omega)]
             omega)
          | rw [if_neg (by omega), if_pos hv48]
          | rw [if_neg (by omega), if_neg (fun c => c hv48), if_pos (by omega)]
  · refine wk_if_ne (t := 14) (q := 12) dX7_judge_9 rfl rfl (by omega) (fun hq => absurd hq (by decide)) (fun _ => ?_)
    refine wk_iconst (q := 13) dX7_judge_12 rfl ?_
    refine wk_iret dX7_judge_13 rfl ⟨Nat.le_refl _, Nat.le_refl _⟩ rfl ?_
    refine mp_fault h rfl ?_ ?_
    · first
        | (rw [hv30'])
        | (rw [show refF V k so i z = 0 by omega])
        | (unfold refF; rw [if_pos hv6])
        | (unfold refF; rw [if_neg (fun q => q hv6), if_pos hv15])
    · unfold r_judge
      first
        | (rw [if_pos (by omega)]; omega)
        | (have q1 : refR V k so i z = -1 := by
             unfold refR
             rw [if_pos hv6]
           rw [if_pos (by omega)]
           omega)
        | (have q1 : refR V k so i z = -2 := by
             unfold refR
             rw [if_neg (fun q => q hv6), if_pos hv15]
           rw [if_pos (by omega)]
           omega)
        | rw [if_neg (by omega), if_pos hv48]
        | rw [if_neg (by omega), if_neg (fun c => c hv48), if_pos (by omega)]
end JUDGE3
