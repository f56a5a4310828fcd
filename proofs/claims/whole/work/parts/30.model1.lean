/-! the reference: one asks -/
def mT (I : qI) (m : Nat) (T : TT) : Prop := I m 5 = T.ng ∧ I m 6 = T.nd ∧ (∀ d, 0 ≤ d → d < T.nd → I (m + 4) d = T.mn d ∧ I (m + 5) d = T.pr d) ∧ ∀ g, 0 ≤ g → g < T.ng → I (m + 6) g = T.kd g ∧ I (m + 7) g = T.kn g ∧ I (m + 8) g = T.ct g ∧ ∀ d, 0 ≤ d → d < T.nd → I (m + 9) (6 * g + d) = T.wo g d
/-- as it is laid -/
def mC (I : qI) (m : Nat) (T : TT) (C : CC) : Prop := I m 28 = C.se ∧ I m 30 = C.st ∧ I m 17 = C.co ∧ (∀ s, 0 ≤ s → s < C.se → I (m + 19) s = C.od s) ∧ ∀ g, 0 ≤ g → g < T.ng → I (m + 21) g = C.kd g ∧ ∀ d, 0 ≤ d → d < T.nd → T.wo g d ≠ -1 → I (m + 10) (6 * g + d) = C.sa g d
/-- what changes, but for how glad they are -/
def mE (I : qI) (m : Nat) (T : TT) (e : ES) : Prop := (∀ d, 0 ≤ d → d < T.nd → I (m + 25) d = e.le d) ∧ ∀ g, 0 ≤ g → g < T.ng → I (m + 20) g = e.la g ∧ I (m + 24) g = e.pa g
def mS (C : CC) : Int := if C.sp < 0 then -9 else C.sp
/-- what an evening doesn't write -/
def frM (I I' : qI) (m : Nat) : Prop := ∀ b i, ¬ (b = m ∧ i = 33) → b ≠ m + 20 → ¬ (m + 22 ≤ b ∧ b ≤ m + 25) → I' b i = I b i
theorem frM.rf {I : qI} {m : Nat} : frM I I m := fun _ _ _ _ _ => rfl
theorem frM.tr {I I1 I2 : qI} {m : Nat} (h1 : frM I I1 m) (h2 : frM I1 I2 m) : frM I I2 m := fun b i q0 q1 q2 => (h2 b i q0 q1 q2).trans (h1 b i q0 q1 q2)
theorem mT.fr {I I' : qI} {m : Nat} {T : TT} (h : mT I m T) (hf : frM I I' m) : mT I' m T := by
  obtain ⟨h1, h2, h3, h4⟩ := h
  have f : ∀ b i, ¬ (b = m ∧ i = 33) → b < m + 20 → I' b i = I b i := fun b i q0 q => hf b i q0 (by omega) (by omega)
  refine ⟨by rw [f _ _ (by omega) (by omega)]; exact h1, by rw [f _ _ (by omega) (by omega)]; exact h2, fun d d0 d1 => ?_, fun g g0 g1 => ?_⟩
  · rw [f _ _ (by omega) (by omega), f _ _ (by omega) (by omega)]
    exact h3 d d0 d1
  · rw [f _ _ (by omega) (by omega), f _ _ (by omega) (by omega), f _ _ (by omega) (by omega)]
    obtain ⟨a1, a2, a3, a4⟩ := h4 g g0 g1
    exact ⟨a1, a2, a3, fun d d0 d1 => by rw [f _ _ (by omega) (by omega)]; exact a4 d d0 d1⟩
theorem mC.fr {I I' : qI} {m : Nat} {T : TT} {C : CC} (h : mC I m T C) (hf : frM I I' m) : mC I' m T C := by
  obtain ⟨h1, h2, h3, h4, h5⟩ := h
  have f : ∀ b i, ¬ (b = m ∧ i = 33) → b < m + 22 → b ≠ m + 20 → I' b i = I b i := fun b i q0 q q2 => hf b i q0 q2 (by omega)
  refine ⟨by rw [f _ _ (by omega) (by omega) (by omega)]; exact h1, by rw [f _ _ (by omega) (by omega) (by omega)]; exact h2, by rw [f _ _ (by omega) (by omega) (by omega)]; exact h3, fun s s0 s1 => by rw [f _ _ (by omega) (by omega) (by omega)]; exact h4 s s0 s1, fun g g0 g1 => ?_⟩
  rw [f _ _ (by omega) (by omega) (by omega)]
  obtain ⟨a1, a2⟩ := h5 g g0 g1
  exact ⟨a1, fun d d0 d1 w => by rw [f _ _ (by omega) (by omega) (by omega)]; exact a2 d d0 d1 w⟩
section MODEL1
variable {l : Launch} {E : qEv} {n : Nat} {sh : qSh} {I L : qI} {R : qR}
theorem ct_X7_truly {m : Nat} {T : TT} {g d : Int} (hM : qMod E.2.2 n sh R m) (hok : T.ok) (hmT : mT I m T) (hg : 0 ≤ g ∧ g < T.ng) (hd : -9 ≤ d ∧ d < T.nd) :
    Ct l E 0 mX7_truly [.ref m, .int (zI g), .int (zI d)] (n, sh, I, L, R) 0 0 (qP n sh I L R (fun v => v = truly T g d)) := by
  have hn := hok.2.1
  have hnd := hok.2.2.2.1
  have e3 := (hmT.2.2.2 g hg.1 hg.2).2.2.2
  refine Ct.of (lo := [(0, _), (1, _), (2, _)]) ok_X7_truly (Nat.le_of_ble_eq_true rfl) rfl ?_
  refine wk_iload_n (i := 2) (q := 1) dX7_truly_0 rfl rfl rfl ?_
  refine wk_if_ge (t := 8) (q := 4) dX7_truly_1 rfl rfl (by omega) (fun hc1 => ?_) (fun hc1 => ?_)
  · refine wk_aload_n (i := 0) (q := 9) dX7_truly_8 rfl rfl rfl ?_
    refine wk_getR (fi := 12) (q := 12) dX7_truly_9 rfl fl_X7_34 rfl rfl hM.ob hM.r12 ?_
    refine wk_bipush (q := 14) dX7_truly_12 rfl (by decide +kernel) ?_
    refine wk_iload_n (i := 1) (q := 15) dX7_truly_14 rfl rfl rfl ?_
    refine wk_imul (q := 16) dX7_truly_15 rfl ?_
    refine wk_iload_n (i := 2) (q := 17) dX7_truly_16 rfl rfl rfl ?_
    refine wk_iadd (q := 18) dX7_truly_17 rfl ?_
    refine wk_iald (q := 19) dX7_truly_18 rfl hM.s12 (by omega) ?_
    refine wk_iret dX7_truly_19 rfl ⟨Nat.le_refl _, Nat.le_refl _⟩ rfl ?_
    refine ⟨_, _, _, _, rfl, rfl, rfl, rfl, rfl, ?_⟩
    unfold truly
    split <;> first | rfl | omega | exact e3 _ (by omega) (by omega)
  · refine wk_iconst (q := 5) dX7_truly_4 rfl ?_
    refine wk_goto (t := 19) dX7_truly_5 rfl ?_
    refine wk_iret dX7_truly_19 rfl ⟨Nat.le_refl _, Nat.le_refl _⟩ rfl ?_
    refine ⟨_, _, _, _, rfl, rfl, rfl, rfl, rfl, ?_⟩
    unfold truly
    split <;> first | rfl | omega | exact e3 _ (by omega) (by omega)
theorem ct_X7_howAsks {m : Nat} {T : TT} {C : CC} {la : Int → Int} {g c : Int} (hM : qMod E.2.2 n sh R m) (hok : T.ok) (hC : C.ok T) (hmT : mT I m T) (hmC : mC I m T C) (hg : 0 ≤ g ∧ g < T.ng) (hc : 0 ≤ c ∧ c < 8) (hsp : I m 33 = mS C) (hla : I (m + 20) g = la g) (hl2 : -9 ≤ la g ∧ la g < T.nd) :
    Ct l E 1 mX7_howAsks [.ref m, .int (zI g), .int (zI c)] (n, sh, I, L, R) 0 0 (qP n sh I L R (fun v => v = manner T C (spc C c) la g)) := by
  have hn := hok.2.1
  have hnd := hok.2.2.2.1
  obtain ⟨k1, k2, k3⟩ := hC.2.2.2.2.2.2.2.2.2.2 g hg.1 hg.2
  obtain ⟨c1, c2, c3, c4, c5, c6, c7⟩ := hok.2.2.2.2.2 g hg.1 hg.2
  have s1 := hC.2.2.2.2.2.2.1
  have s2 := hC.2.2.2.2.2.2.2.1
  have e1 := (hmC.2.2.2.2 g hg.1 hg.2).1
  obtain ⟨-, -, e2, e3⟩ := hmT.2.2.2 g hg.1 hg.2
  have hmS : -9 ≤ mS C ∧ mS C < 7 := by
    unfold mS
    split <;> omega
  refine Ct.of (lo := [(0, _), (1, _), (2, _)]) ok_X7_howAsks (Nat.le_of_ble_eq_true rfl) rfl ?_
  have hfin : ∀ v : Int, (g = mS C ∧ c = 0 → v = 2) → (¬ (g = mS C ∧ c = 0) → v = if C.kd g < 2 then C.kd g else if la g ≠ -8 ∧ truly T g (la g) < T.ct g then 2 else 0) → v = manner T C (spc C c) la g := by
    intro v h1 h2
    unfold manner spc
    unfold mS at h1 h2
    by_cases hz : C.sp < 0
    · rw [if_pos hz] at h1 h2
      rw [if_neg (by split <;> omega)]
      exact h2 (by omega)
    · rw [if_neg hz] at h1 h2
      by_cases hc0 : c = 0
      · rw [if_pos hc0]
        by_cases hgs : g = C.sp
        · rw [if_pos hgs]
          exact h1 ⟨hgs, hc0⟩
        · rw [if_neg hgs]
          exact h2 (by omega)
      · rw [if_neg hc0, if_neg (by omega)]
        exact h2 (by omega)
  refine wk_iload_n (i := 1) (q := 1) dX7_howAsks_0 rfl rfl rfl ?_
  refine wk_aload_n (i := 0) (q := 2) dX7_howAsks_1 rfl rfl rfl ?_
  refine wk_getI (fi := 33) (q := 5) dX7_howAsks_2 rfl fl_X7_200 rfl rfl hM.ob ?_
  refine wk_icmp_ne (t := 14) (q := 8) dX7_howAsks_5 rfl rfl (by omega) (by omega) (fun hc5 => ?_) (fun hc5 => ?_)
  · refine wk_aload_n (i := 0) (q := 15) dX7_howAsks_14 rfl rfl rfl ?_
    refine wk_getR (fi := 32) (q := 18) dX7_howAsks_15 rfl fl_X7_70 rfl rfl hM.ob hM.r32 ?_
    refine wk_iload_n (i := 1) (q := 19) dX7_howAsks_18 rfl rfl rfl ?_
    refine wk_iald (q := 20) dX7_howAsks_19 rfl hM.s32 (by omega) ?_
    refine wk_iconst (q := 21) dX7_howAsks_20 rfl ?_
    refine wk_icmp_ge (t := 31) (q := 24) dX7_howAsks_21 rfl rfl (by omega) (by omega) (fun hc21 => ?_) (fun hc21 => ?_)
    · refine wk_aload_n (i := 0) (q := 32) dX7_howAsks_31 rfl rfl rfl ?_
      refine wk_getR (fi := 31) (q := 35) dX7_howAsks_32 rfl fl_X7_67 rfl rfl hM.ob hM.r31 ?_
      refine wk_iload_n (i := 1) (q := 36) dX7_howAsks_35 rfl rfl rfl ?_
      refine wk_iald (q := 37) dX7_howAsks_36 rfl hM.s31 (by omega) ?_
      refine wk_bipush (q := 39) dX7_howAsks_37 rfl (by decide +kernel) ?_
      refine wk_icmp_eq (t := 66) (q := 42) dX7_howAsks_39 rfl rfl (by omega) (by omega) (fun hc39 => ?_) (fun hc39 => ?_)
      · refine wk_iconst (q := 67) dX7_howAsks_66 rfl ?_
        refine wk_iret dX7_howAsks_67 rfl ⟨Nat.le_refl _, Nat.le_refl _⟩ rfl ?_
        refine ⟨_, _, _, _, rfl, rfl, rfl, rfl, rfl, ?_⟩
        refine hfin _ (fun q => by omega) (fun q => ?_)
        first
          | rw [if_neg (by omega), if_pos (by omega)]
          | rw [if_neg (by omega), if_neg (by omega)]
      · refine wk_aload_n (i := 0) (q := 43) dX7_howAsks_42 rfl rfl rfl ?_
        refine wk_iload_n (i := 1) (q := 44) dX7_howAsks_43 rfl rfl rfl ?_
        refine wk_aload_n (i := 0) (q := 45) dX7_howAsks_44 rfl rfl rfl ?_
        refine wk_getR (fi := 31) (q := 48) dX7_howAsks_45 rfl fl_X7_67 rfl rfl hM.ob hM.r31 ?_
        refine wk_iload_n (i := 1) (q := 49) dX7_howAsks_48 rfl rfl rfl ?_
        refine wk_iald (q := 50) dX7_howAsks_49 rfl hM.s31 (by omega) ?_
        refine wk_cP2 (q := 53) dX7_howAsks_50 rfl vl_X7_203 ⟨_, _, rfl⟩ hM.ob (ct_X7_truly hM hok hmT hg (by omega)) (qRo_m ok_X7_truly (by decide) (Nat.le_refl _) (Nat.le_refl _)) (Nat.le_of_ble_eq_true rfl) (fun v50 hv50 => ?_)
        rw [hla] at hv50
        have hw2 : -1 ≤ v50 ∧ v50 ≤ 9 := by
          rw [hv50]
          unfold truly
          split
          · omega
          · exact c7 (la g) (by omega) hl2.2
        refine wk_aload_n (i := 0) (q := 54) dX7_howAsks_53 rfl rfl rfl ?_
        refine wk_getR (fi := 11) (q := 57) dX7_howAsks_54 rfl fl_X7_31 rfl rfl hM.ob hM.r11 ?_
        refine wk_iload_n (i := 1) (q := 58) dX7_howAsks_57 rfl rfl rfl ?_
        refine wk_iald (q := 59) dX7_howAsks_58 rfl hM.s11 (by omega) ?_
        refine wk_icmp_ge (t := 66) (q := 62) dX7_howAsks_59 rfl rfl (by omega) (by omega) (fun hc59 => ?_) (fun hc59 => ?_)
        · refine wk_iconst (q := 67) dX7_howAsks_66 rfl ?_
          refine wk_iret dX7_howAsks_67 rfl ⟨Nat.le_refl _, Nat.le_refl _⟩ rfl ?_
          refine ⟨_, _, _, _, rfl, rfl, rfl, rfl, rfl, ?_⟩
          refine hfin _ (fun q => by omega) (fun q => ?_)
          first
            | rw [if_neg (by omega), if_pos (by omega)]
            | rw [if_neg (by omega), if_neg (by omega)]
        · refine wk_iconst (q := 63) dX7_howAsks_62 rfl ?_
          refine wk_goto (t := 67) dX7_howAsks_63 rfl ?_
          refine wk_iret dX7_howAsks_67 rfl ⟨Nat.le_refl _, Nat.le_refl _⟩ rfl ?_
          refine ⟨_, _, _, _, rfl, rfl, rfl, rfl, rfl, ?_⟩
          refine hfin _ (fun q => by omega) (fun q => ?_)
          first
            | rw [if_neg (by omega), if_pos (by omega)]
            | rw [if_neg (by omega), if_neg (by omega)]
    · refine wk_aload_n (i := 0) (q := 25) dX7_howAsks_24 rfl rfl rfl ?_
      refine wk_getR (fi := 32) (q := 28) dX7_howAsks_25 rfl fl_X7_70 rfl rfl hM.ob hM.r32 ?_
      refine wk_iload_n (i := 1) (q := 29) dX7_howAsks_28 rfl rfl rfl ?_
      refine wk_iald (q := 30) dX7_howAsks_29 rfl hM.s32 (by omega) ?_
      refine wk_iret dX7_howAsks_30 rfl ⟨Nat.le_refl _, Nat.le_refl _⟩ rfl ?_
      refine ⟨_, _, _, _, rfl, rfl, rfl, rfl, rfl, ?_⟩
      refine hfin _ (fun q => by omega) (fun q => ?_)
      rw [if_pos (by omega)]
      exact e1
  · refine wk_iload_n (i := 2) (q := 9) dX7_howAsks_8 rfl rfl rfl ?_
    refine wk_if_ne (t := 14) (q := 12) dX7_howAsks_9 rfl rfl (by omega) (fun hc9 => ?_) (fun hc9 => ?_)
    · refine wk_aload_n (i := 0) (q := 15) dX7_howAsks_14 rfl rfl rfl ?_
      refine wk_getR (fi := 32) (q := 18) dX7_howAsks_15 rfl fl_X7_70 rfl rfl hM.ob hM.r32 ?_
      refine wk_iload_n (i := 1) (q := 19) dX7_howAsks_18 rfl rfl rfl ?_
      refine wk_iald (q := 20) dX7_howAsks_19 rfl hM.s32 (by omega) ?_
      refine wk_iconst (q := 21) dX7_howAsks_20 rfl ?_
      refine wk_icmp_ge (t := 31) (q := 24) dX7_howAsks_21 rfl rfl (by omega) (by omega) (fun hc21 => ?_) (fun hc21 => ?_)
      · refine wk_aload_n (i := 0) (q := 32) dX7_howAsks_31 rfl rfl rfl ?_
        refine wk_getR (fi := 31) (q := 35) dX7_howAsks_32 rfl fl_X7_67 rfl rfl hM.ob hM.r31 ?_
        refine wk_iload_n (i := 1) (q := 36) dX7_howAsks_35 rfl rfl rfl ?_
        refine wk_iald (q := 37) dX7_howAsks_36 rfl hM.s31 (by omega) ?_
        refine wk_bipush (q := 39) dX7_howAsks_37 rfl (by decide +kernel) ?_
        refine wk_icmp_eq (t := 66) (q := 42) dX7_howAsks_39 rfl rfl (by omega) (by omega) (fun hc39 => ?_) (fun hc39 => ?_)
        · refine wk_iconst (q := 67) dX7_howAsks_66 rfl ?_
          refine wk_iret dX7_howAsks_67 rfl ⟨Nat.le_refl _, Nat.le_refl _⟩ rfl ?_
          refine ⟨_, _, _, _, rfl, rfl, rfl, rfl, rfl, ?_⟩
          refine hfin _ (fun q => by omega) (fun q => ?_)
          first
            | rw [if_neg (by omega), if_pos (by omega)]
            | rw [if_neg (by omega), if_neg (by omega)]
        · refine wk_aload_n (i := 0) (q := 43) dX7_howAsks_42 rfl rfl rfl ?_
          refine wk_iload_n (i := 1) (q := 44) dX7_howAsks_43 rfl rfl rfl ?_
          refine wk_aload_n (i := 0) (q := 45) dX7_howAsks_44 rfl rfl rfl ?_
          refine wk_getR (fi := 31) (q := 48) dX7_howAsks_45 rfl fl_X7_67 rfl rfl hM.ob hM.r31 ?_
          refine wk_iload_n (i := 1) (q := 49) dX7_howAsks_48 rfl rfl rfl ?_
          refine wk_iald (q := 50) dX7_howAsks_49 rfl hM.s31 (by omega) ?_
          refine wk_cP2 (q := 53) dX7_howAsks_50 rfl vl_X7_203 ⟨_, _, rfl⟩ hM.ob (ct_X7_truly hM hok hmT hg (by omega)) (qRo_m ok_X7_truly (by decide) (Nat.le_refl _) (Nat.le_refl _)) (Nat.le_of_ble_eq_true rfl) (fun v50 hv50 => ?_)
          rw [hla] at hv50
          have hw2 : -1 ≤ v50 ∧ v50 ≤ 9 := by
            rw [hv50]
            unfold truly
            split
            · omega
            · exact c7 (la g) (by omega) hl2.2
          refine wk_aload_n (i := 0) (q := 54) dX7_howAsks_53 rfl rfl rfl ?_
          refine wk_getR (fi := 11) (q := 57) dX7_howAsks_54 rfl fl_X7_31 rfl rfl hM.ob hM.r11 ?_
          refine wk_iload_n (i := 1) (q := 58) dX7_howAsks_57 rfl rfl rfl ?_
          refine wk_iald (q := 59) dX7_howAsks_58 rfl hM.s11 (by omega) ?_
          refine wk_icmp_ge (t := 66) (q := 62) dX7_howAsks_59 rfl rfl (by omega) (by omega) (fun hc59 => ?_) (fun hc59 => ?_)
          · refine wk_iconst (q := 67) dX7_howAsks_66 rfl ?_
            refine wk_iret dX7_howAsks_67 rfl ⟨Nat.le_refl _, Nat.le_refl _⟩ rfl ?_
            refine ⟨_, _, _, _, rfl, rfl, rfl, rfl, rfl, ?_⟩
            refine hfin _ (fun q => by omega) (fun q => ?_)
            first
              | rw [if_neg (by omega), if_pos (by omega)]
              | rw [if_neg (by omega), if_neg (by omega)]
          · refine wk_iconst (q := 63) dX7_howAsks_62 rfl ?_
            refine wk_goto (t := 67) dX7_howAsks_63 rfl ?_
            refine wk_iret dX7_howAsks_67 rfl ⟨Nat.le_refl _, Nat.le_refl _⟩ rfl ?_
            refine ⟨_, _, _, _, rfl, rfl, rfl, rfl, rfl, ?_⟩
            refine hfin _ (fun q => by omega) (fun q => ?_)
            first
              | rw [if_neg (by omega), if_pos (by omega)]
              | rw [if_neg (by omega), if_neg (by omega)]
      · refine wk_aload_n (i := 0) (q := 25) dX7_howAsks_24 rfl rfl rfl ?_
        refine wk_getR (fi := 32) (q := 28) dX7_howAsks_25 rfl fl_X7_70 rfl rfl hM.ob hM.r32 ?_
        refine wk_iload_n (i := 1) (q := 29) dX7_howAsks_28 rfl rfl rfl ?_
        refine wk_iald (q := 30) dX7_howAsks_29 rfl hM.s32 (by omega) ?_
        refine wk_iret dX7_howAsks_30 rfl ⟨Nat.le_refl _, Nat.le_refl _⟩ rfl ?_
        refine ⟨_, _, _, _, rfl, rfl, rfl, rfl, rfl, ?_⟩
        refine hfin _ (fun q => by omega) (fun q => ?_)
        rw [if_pos (by omega)]
        exact e1
    · refine wk_iconst (q := 13) dX7_howAsks_12 rfl ?_
      refine wk_iret dX7_howAsks_13 rfl ⟨Nat.le_refl _, Nat.le_refl _⟩ rfl ?_
      refine ⟨_, _, _, _, rfl, rfl, rfl, rfl, rfl, ?_⟩
      exact hfin _ (fun _ => rfl) (fun q => absurd ⟨by omega, by omega⟩ q)
end MODEL1
