/-! one asks -/
def shE (I : qI) (t : Nat) (T : TT) (e : ES) : Prop := (∀ d, 0 ≤ d → d < T.nd → I (t + 26) d = e.le d) ∧ ∀ g, 0 ≤ g → g < T.ng → I (t + 17) g = e.la g ∧ I (t + 36) g = e.gl g ∧ I (t + 37) g = e.pa g
/-- what an evening doesn't write -/
def frT (I I' : qI) (t : Nat) : Prop := ∀ b i, b ≠ t + 17 → b ≠ t + 26 → ¬ (t + 28 ≤ b ∧ b < t + 38) → I' b i = I b i
theorem frT.rf {I : qI} {t : Nat} : frT I I t := fun _ _ _ _ _ => rfl
theorem frT.tr {I I1 I2 : qI} {t : Nat} (h1 : frT I I1 t) (h2 : frT I1 I2 t) : frT I I2 t := fun b i q1 q2 q3 => (h2 b i q1 q2 q3).trans (h1 b i q1 q2 q3)
theorem shT.fr {I I' : qI} {t o : Nat} {T : TT} (h : shT I o T) (ho : o + 14 ≤ t) (hf : frT I I' t) (hT : T.ok) : shT I' o T := by
  have hn := hT.2.1
  have f : ∀ b i, b < t → I' b i = I b i := fun b i hb => hf b i (by omega) (by omega) (by omega)
  refine ⟨by rw [f _ _ (by omega)]; exact h.1, by rw [f _ _ (by omega)]; exact h.2.1, fun d h0 h1 => ?_, fun g h0 h1 => ?_⟩
  · rw [f _ _ (by omega), f _ _ (by omega)]
    exact h.2.2.1 d h0 h1
  · rw [f _ _ (by omega), f _ _ (by omega), f _ _ (by omega)]
    obtain ⟨a1, a2, a3, a4⟩ := h.2.2.2 g h0 h1
    exact ⟨a1, a2, a3, fun d d0 d1 => by rw [f _ _ (by omega)]; exact a4 d d0 d1⟩
theorem shC.fr {I I' : qI} {t : Nat} {T : TT} {C : CC} (h : shC I t T C) (hf : frT I I' t) (hT : T.ok) : shC I' t T C := by
  have hn := hT.2.1
  have f : ∀ b i, b < t + 26 → b ≠ t + 17 → I' b i = I b i := fun b i hb h17 => hf b i h17 (by omega) (by omega)
  obtain ⟨h1, h2, h3, h4, h5⟩ := h
  refine ⟨by rw [f _ _ (by omega) (by omega)]; exact h1, by rw [f _ _ (by omega) (by omega)]; exact h2, by rw [f _ _ (by omega) (by omega)]; exact h3, fun s s0 s1 => by rw [f _ _ (by omega) (by omega)]; exact h4 s s0 s1, fun g g0 g1 => ?_⟩
  rw [f _ _ (by omega) (by omega)]
  obtain ⟨a1, a2⟩ := h5 g g0 g1
  exact ⟨a1, fun d d0 d1 => by rw [f _ _ (by omega) (by omega)]; exact a2 d d0 d1⟩
section ASK
variable {l : Launch} {E : qEv} {n : Nat} {sh : qSh} {I L : qI} {R : qR}
theorem manner_in {T : TT} {C : CC} (hC : C.ok T) (sp : Int) (la : Int → Int) {g : Int} (hg : 0 ≤ g ∧ g < T.ng) : 0 ≤ manner T C sp la g ∧ manner T C sp la g ≤ 2 := by
  obtain ⟨k1, k2, k3⟩ := hC.2.2.2.2.2.2.2.2.2.2 g hg.1 hg.2
  unfold manner
  split
  · omega
  · split
    · omega
    · split <;> omega
theorem ct_X4_ask {t o : Nat} {c s : Int} {T : TT} {C : CC} {e : ES} (hT : qTab E.2.2 n sh R t o) (hot : o + 14 ≤ t) (hok : T.ok) (hC : C.ok T) (hsT : shT I o T) (hsC : shC I t T C) (hsE : shE I t T e) (hla : LAok T e.la) (hle : ∀ d, 0 ≤ d → d < T.nd → 0 ≤ e.le d ∧ e.le d ≤ 9)
    (hc : 0 ≤ c ∧ c < 8) (ha : 0 ≤ C.od s ∧ C.od s < T.ng) (hh : 0 ≤ tgt C s ∧ tgt C s < T.ng) (hsp : I t 8 = spc C c) :
    Ct l E 2 mX4_ask [.ref t, .int (zI c), .int (zI (C.od s)), .int (zI (tgt C s))] (n, sh, I, L, R) 0 0 (qV n sh (fun I' L' R' => L' = L ∧ R' = R ∧ frT I I' t ∧ shE I' t T (askS T C c s e) ∧ I' (t + 28 + c.toNat) (tgt C s) = askD T C c s e ∧ ∀ b i, t + 28 ≤ b → b < t + 36 → ¬ (b = t + 28 + c.toNat ∧ i = tgt C s) → I' b i = I b i)) := by
  have hn := hok.2.1
  have hnd := hok.2.2.2.1
  have hlaa := hla _ ha.1 ha.2
  have hspc : -1 ≤ spc C c ∧ spc C c < 7 := by
    unfold spc
    split
    · exact ⟨hC.2.2.2.2.2.2.1, hC.2.2.2.2.2.2.2.1⟩
    · omega
  obtain ⟨d, hd⟩ : ∃ d, d = askD T C c s e := ⟨_, rfl⟩
  have hdin := wish_in hok C (manner T C (spc C c) e.la (C.od s)) (tgt C s) e.le
  rw [show wish T C (manner T C (spc C c) e.la (C.od s)) (tgt C s) e.le = askD T C c s e from rfl, ← hd] at hdin
  have hnone : d < 0 → ∀ I' : qI, I' = up (up I (t + 28 + c.toNat) (tgt C s) d) (t + 17) (tgt C s) d → frT I I' t ∧ shE I' t T (askS T C c s e) ∧ I' (t + 28 + c.toNat) (tgt C s) = askD T C c s e ∧ ∀ b i, t + 28 ≤ b → b < t + 36 → ¬ (b = t + 28 + c.toNat ∧ i = tgt C s) → I' b i = I b i := by
    rintro hd0 I' rfl
    refine ⟨fun b i q1 q2 q3 => by rw [up_na _ _ _ _ q1, up_na _ _ _ _ (by omega)], ⟨fun x x0 x1 => ?_, fun g g0 g1 => ⟨?_, ?_, ?_⟩⟩, ?_, fun b i q1 q2 q3 => ?_⟩
    · rw [up_na _ _ _ _ (by omega), up_na _ _ _ _ (by omega), hsE.1 x x0 x1]
      show _ = (if askD T C c s e < 0 then e.le else _) x
      rw [← hd, if_pos hd0]
    · by_cases hg : g = tgt C s
      · rw [hg, up_eq]
        show d = u1 e.la (tgt C s) (askD T C c s e) (tgt C s)
        rw [u1_eq, hd]
      · rw [up_ni _ _ hg, up_na _ _ _ _ (by omega), (hsE.2 g g0 g1).1]
        exact (u1_ne hg).symm
    · rw [up_na _ _ _ _ (by omega), up_na _ _ _ _ (by omega), (hsE.2 g g0 g1).2.1]
      show _ = (if askD T C c s e < 0 then e.gl else _) g
      rw [← hd, if_pos hd0]
    · rw [up_na _ _ _ _ (by omega), up_na _ _ _ _ (by omega), (hsE.2 g g0 g1).2.2]
      show _ = (if askD T C c s e < 0 then e.pa else _) g
      rw [← hd, if_pos hd0]
    · rw [up_na _ _ _ _ (by omega), up_eq, hd]
    · rw [up_na _ _ _ _ (by omega)]
      by_cases hb : b = t + 28 + c.toNat
      · rw [up_ni _ _ (fun q => q3 ⟨hb, q⟩)]
      · rw [up_na _ _ _ _ hb]
  have hsome : 0 ≤ d → ∀ I1 I2 I3 I4 I5 : qI, I1 = up (up I (t + 28 + c.toNat) (tgt C s) d) (t + 17) (tgt C s) d → I2 = up I1 (t + 26) d (I1 (t + 26) d - 1) → I3 = up I2 (t + 36) (tgt C s) (I2 (t + 36) (tgt C s) + 10 * T.wo (tgt C s) d) → I4 = up I3 (t + 36) (C.od s) (I3 (t + 36) (C.od s) + I3 (o + 4) (C.od s) * T.wo (tgt C s) d) → I5 = up I4 (t + 37) (C.od s) (I4 (t + 37) (C.od s) + I4 (o + 2) d) →
      frT I I5 t ∧ shE I5 t T (askS T C c s e) ∧ I5 (t + 28 + c.toNat) (tgt C s) = askD T C c s e ∧ ∀ b i, t + 28 ≤ b → b < t + 36 → ¬ (b = t + 28 + c.toNat ∧ i = tgt C s) → I5 b i = I b i := by
    rintro hd0 I1 I2 I3 I4 I5 h1 h2 h3 h4 h5
    have hdn : ¬ askD T C c s e < 0 := by omega
    have g5 : ∀ b i, b ≠ t + 37 → I5 b i = I4 b i := fun b i q => by rw [h5, up_na _ _ _ _ q]
    have g4 : ∀ b i, b ≠ t + 36 → I4 b i = I3 b i := fun b i q => by rw [h4, up_na _ _ _ _ q]
    have g3 : ∀ b i, b ≠ t + 36 → I3 b i = I2 b i := fun b i q => by rw [h3, up_na _ _ _ _ q]
    have g2 : ∀ b i, b ≠ t + 26 → I2 b i = I1 b i := fun b i q => by rw [h2, up_na _ _ _ _ q]
    have g1 : ∀ b i, b ≠ t + 17 → b ≠ t + 28 + c.toNat → I1 b i = I b i := fun b i q1 q2 => by rw [h1, up_na _ _ _ _ q1, up_na _ _ _ _ q2]
    have hkn : I3 (o + 4) (C.od s) = T.kn (C.od s) := by rw [g3 _ _ (by omega), g2 _ _ (by omega), g1 _ _ (by omega) (by omega)]; exact (hsT.2.2.2 _ ha.1 ha.2).2.1
    have hpr : I4 (o + 2) d = T.pr d := by rw [g4 _ _ (by omega), g3 _ _ (by omega), g2 _ _ (by omega), g1 _ _ (by omega) (by omega)]; exact (hsT.2.2.1 d (by omega) (by omega)).2
    refine ⟨fun b i q1 q2 q3 => by rw [g5 _ _ (by omega), g4 _ _ (by omega), g3 _ _ (by omega), g2 _ _ q2, g1 _ _ q1 (by omega)], ⟨fun x x0 x1 => ?_, fun g g0 g1' => ⟨?_, ?_, ?_⟩⟩, ?_, fun b i q1 q2 q3 => ?_⟩
    · rw [g5 _ _ (by omega), g4 _ _ (by omega), g3 _ _ (by omega), h2]
      show _ = (if askD T C c s e < 0 then e.le else u1 e.le (askD T C c s e) (e.le (askD T C c s e) - 1)) x
      rw [if_neg hdn, ← hd]
      by_cases hx : x = d
      · rw [hx, up_eq, u1_eq, g1 _ _ (by omega) (by omega), hsE.1 d (by omega) (by omega)]
      · rw [up_ni _ _ hx, u1_ne hx, g1 _ _ (by omega) (by omega), hsE.1 x x0 x1]
    · rw [g5 _ _ (by omega), g4 _ _ (by omega), g3 _ _ (by omega), g2 _ _ (by omega), h1]
      show _ = u1 e.la (tgt C s) (askD T C c s e) g
      by_cases hg : g = tgt C s
      · rw [hg, up_eq, u1_eq, hd]
      · rw [up_ni _ _ hg, up_na _ _ _ _ (by omega), (hsE.2 g g0 g1').1, u1_ne hg]
    · have b2 : ∀ g, 0 ≤ g → g < T.ng → I2 (t + 36) g = e.gl g := fun g g0 g1' => by rw [g2 _ _ (by omega), g1 _ _ (by omega) (by omega)]; exact (hsE.2 g g0 g1').2.1
      have b3 : ∀ g, 0 ≤ g → g < T.ng → I3 (t + 36) g = u1 e.gl (tgt C s) (e.gl (tgt C s) + 10 * T.wo (tgt C s) d) g := fun g g0 g1' => by
        rw [h3]
        by_cases hg : g = tgt C s
        · rw [hg, up_eq, u1_eq, b2 _ hh.1 hh.2]
        · rw [up_ni _ _ hg, u1_ne hg, b2 _ g0 g1']
      rw [g5 _ _ (by omega), h4]
      show _ = (if askD T C c s e < 0 then e.gl else u1 (u1 e.gl (tgt C s) (e.gl (tgt C s) + 10 * T.wo (tgt C s) (askD T C c s e))) (C.od s) (u1 e.gl (tgt C s) (e.gl (tgt C s) + 10 * T.wo (tgt C s) (askD T C c s e)) (C.od s) + T.kn (C.od s) * T.wo (tgt C s) (askD T C c s e))) g
      rw [if_neg hdn, ← hd]
      by_cases hg : g = C.od s
      · rw [hg, up_eq, u1_eq, b3 _ ha.1 ha.2, hkn]
      · rw [up_ni _ _ hg, u1_ne hg, b3 _ g0 g1']
    · have b4 : ∀ g, 0 ≤ g → g < T.ng → I4 (t + 37) g = e.pa g := fun g g0 g1' => by rw [g4 _ _ (by omega), g3 _ _ (by omega), g2 _ _ (by omega), g1 _ _ (by omega) (by omega)]; exact (hsE.2 g g0 g1').2.2
      rw [h5]
      show _ = (if askD T C c s e < 0 then e.pa else u1 e.pa (C.od s) (e.pa (C.od s) + T.pr (askD T C c s e))) g
      rw [if_neg hdn, ← hd]
      by_cases hg : g = C.od s
      · rw [hg, up_eq, u1_eq, b4 _ ha.1 ha.2, hpr]
      · rw [up_ni _ _ hg, u1_ne hg, b4 _ g0 g1']
    · rw [g5 _ _ (by omega), g4 _ _ (by omega), g3 _ _ (by omega), g2 _ _ (by omega), h1, up_na _ _ _ _ (by omega), up_eq, hd]
    · rw [g5 _ _ (by omega), g4 _ _ (by omega), g3 _ _ (by omega), g2 _ _ (by omega), h1, up_na _ _ _ _ (by omega)]
      by_cases hb : b = t + 28 + c.toNat
      · rw [up_ni _ _ (fun q => q3 ⟨hb, q⟩)]
      · rw [up_na _ _ _ _ hb]
  refine Ct.of (lo := [(0, _), (1, _), (2, _), (3, _)]) ok_X4_ask (Nat.le_of_ble_eq_true rfl) rfl ?_
  refine wk_aload_n (i := 0) (q := 1) dX4_ask_0 rfl rfl rfl ?_
  refine wk_aload_n (i := 0) (q := 2) dX4_ask_1 rfl rfl rfl ?_
  refine wk_iload_n (i := 2) (q := 3) dX4_ask_2 rfl rfl rfl ?_
  refine wk_cP1 (q := 6) dX4_ask_3 rfl vl_X4_107 ⟨_, _, rfl⟩ hT.1.ob (ct_X4_mannerOf (sp := spc C c) hT hok hC hsT hsC ha hsp hspc (hsE.2 _ ha.1 ha.2).1 hlaa) (qRo_m ok_X4_mannerOf (by decide) (Nat.le_refl _) (Nat.le_refl _)) (Nat.le_of_ble_eq_true rfl) (fun v3 hv3 => ?_)
  subst hv3
  refine wk_iload_n (i := 3) (q := 7) dX4_ask_6 rfl rfl rfl ?_
  refine wk_cP2 (q := 10) dX4_ask_7 rfl vl_X4_110 ⟨_, _, rfl⟩ hT.1.ob (ct_X4_wish (le := e.le) hT hok hC hsT hsC hh (manner_in hC _ _ ha) (fun d q1 q2 => ⟨hsE.1 d q1 q2, hle d q1 q2⟩)) (qRo_m ok_X4_wish (by decide) (Nat.le_refl _) (Nat.le_refl _)) (Nat.le_of_ble_eq_true rfl) (fun v7 hv7 => ?_)
  rw [show v7 = d by rw [hv7, hd]; rfl]
  refine wk_istore (i := 4) (lo' := [(0, _), (1, _), (2, _), (3, _), (4, _)]) (q := 12) dX4_ask_10 rfl (by decide) rfl ?_
  refine wk_aload_n (i := 0) (q := 13) dX4_ask_12 rfl rfl rfl ?_
  refine wk_getR (fi := 10) (q := 16) dX4_ask_13 rfl fl_X4_40 rfl rfl hT.1.ob hT.1.r10 ?_
  refine wk_iload_n (i := 1) (q := 17) dX4_ask_16 rfl rfl rfl ?_
  refine wk_aald2 (q := 18) dX4_ask_17 rfl hT.1.s10 (by omega) (hT.1.w10 (by omega)) ?_
  refine wk_iload_n (i := 3) (q := 19) dX4_ask_18 rfl rfl rfl ?_
  refine wk_iload (i := 4) (q := 21) dX4_ask_19 rfl rfl ?_
  refine wk_iast (q := 22) dX4_ask_21 rfl (hT.1.v10 (by omega)) (by omega) ?_
  refine wk_aload_n (i := 0) (q := 23) dX4_ask_22 rfl rfl rfl ?_
  refine wk_getR (fi := 3) (q := 26) dX4_ask_23 rfl fl_X4_25 rfl rfl hT.1.ob hT.1.r3 ?_
  refine wk_iload_n (i := 3) (q := 27) dX4_ask_26 rfl rfl rfl ?_
  refine wk_iload (i := 4) (q := 29) dX4_ask_27 rfl rfl ?_
  refine wk_iast (q := 30) dX4_ask_29 rfl hT.1.s3 (by omega) ?_
  refine wk_iload (i := 4) (q := 32) dX4_ask_30 rfl rfl ?_
  refine wk_if_lt (t := 114) (q := 35) dX4_ask_32 rfl rfl (by omega) (fun hc32 => ?_) (fun hc32 => ?_)
  · refine wk_ret dX4_ask_114 rfl ⟨Nat.le_refl _, Nat.le_refl _⟩ rfl ?_
    first
      | exact ⟨_, _, _, rfl, rfl, rfl, rfl, hnone hc32 _ rfl⟩
      | exact ⟨_, _, _, rfl, rfl, rfl, rfl, hsome hc32 _ _ _ _ _ hI1 hI2 hI3 hI4 rfl⟩
  · obtain ⟨I1, hI1⟩ : ∃ I1, I1 = up (up I (t + 28 + c.toNat) (tgt C s) d) (t + 17) (tgt C s) d := ⟨_, rfl⟩
    rw [← hI1]
    have f1 : ∀ b i, b ≠ t + 17 → b ≠ t + 28 + c.toNat → I1 b i = I b i := fun b i q1 q2 => by rw [hI1, up_na _ _ _ _ q1, up_na _ _ _ _ q2]
    refine wk_aload_n (i := 0) (q := 36) dX4_ask_35 rfl rfl rfl ?_
    refine wk_getR (fi := 0) (q := 39) dX4_ask_36 rfl fl_X4_12 rfl rfl hT.1.ob hT.2.1 ?_
    refine wk_getR (fi := 5) (q := 42) dX4_ask_39 rfl fl_X4_62 rfl rfl hT.2.2.ob hT.2.2.r5 ?_
    refine wk_iload_n (i := 3) (q := 43) dX4_ask_42 rfl rfl rfl ?_
    refine wk_aald2 (q := 44) dX4_ask_43 rfl hT.2.2.s5 (by omega) (hT.2.2.w5 (by omega)) ?_
    refine wk_iload (i := 4) (q := 46) dX4_ask_44 rfl rfl ?_
    refine wk_iald (q := 47) dX4_ask_46 rfl (hT.2.2.v5 (by omega)) (by omega) ?_
    rw [f1 _ _ (by omega) (by omega), (hsT.2.2.2 _ hh.1 hh.2).2.2.2 d (by omega) (by omega)]
    refine wk_istore (i := 5) (lo' := [(0, _), (1, _), (2, _), (3, _), (4, _), (5, _)]) (q := 49) dX4_ask_47 rfl (by decide) rfl ?_
    refine wk_aload_n (i := 0) (q := 50) dX4_ask_49 rfl rfl rfl ?_
    refine wk_getR (fi := 9) (q := 53) dX4_ask_50 rfl fl_X4_37 rfl rfl hT.1.ob hT.1.r9 ?_
    refine wk_iload (i := 4) (q := 55) dX4_ask_53 rfl rfl ?_
    refine wk_dup2 (q := 56) dX4_ask_55 rfl rfl rfl ?_
    refine wk_iald (q := 57) dX4_ask_56 rfl hT.1.s9 (by omega) ?_
    refine wk_iconst (q := 58) dX4_ask_57 rfl ?_
    refine wk_isub (q := 59) dX4_ask_58 rfl ?_
    refine wk_iast (q := 60) dX4_ask_59 rfl hT.1.s9 (by omega) ?_
    obtain ⟨I2, hI2⟩ : ∃ I2, I2 = up I1 (t + 26) d (I1 (t + 26) d - 1) := ⟨_, rfl⟩
    rw [← hI2]
    refine wk_aload_n (i := 0) (q := 61) dX4_ask_60 rfl rfl rfl ?_
    refine wk_getR (fi := 11) (q := 64) dX4_ask_61 rfl fl_X4_43 rfl rfl hT.1.ob hT.1.r11 ?_
    refine wk_iload_n (i := 3) (q := 65) dX4_ask_64 rfl rfl rfl ?_
    refine wk_dup2 (q := 66) dX4_ask_65 rfl rfl rfl ?_
    refine wk_iald (q := 67) dX4_ask_66 rfl hT.1.s11 (by omega) ?_
    refine wk_bipush (q := 69) dX4_ask_67 rfl (by decide +kernel) ?_
    refine wk_iload (i := 5) (q := 71) dX4_ask_69 rfl rfl ?_
    refine wk_imul (q := 72) dX4_ask_71 rfl ?_
    refine wk_iadd (q := 73) dX4_ask_72 rfl ?_
    refine wk_iast (q := 74) dX4_ask_73 rfl hT.1.s11 (by omega) ?_
    obtain ⟨I3, hI3⟩ : ∃ I3, I3 = up I2 (t + 36) (tgt C s) (I2 (t + 36) (tgt C s) + 10 * T.wo (tgt C s) d) := ⟨_, rfl⟩
    rw [← hI3]
    refine wk_aload_n (i := 0) (q := 75) dX4_ask_74 rfl rfl rfl ?_
    refine wk_getR (fi := 11) (q := 78) dX4_ask_75 rfl fl_X4_43 rfl rfl hT.1.ob hT.1.r11 ?_
    refine wk_iload_n (i := 2) (q := 79) dX4_ask_78 rfl rfl rfl ?_
    refine wk_dup2 (q := 80) dX4_ask_79 rfl rfl rfl ?_
    refine wk_iald (q := 81) dX4_ask_80 rfl hT.1.s11 (by omega) ?_
    refine wk_aload_n (i := 0) (q := 82) dX4_ask_81 rfl rfl rfl ?_
    refine wk_getR (fi := 0) (q := 85) dX4_ask_82 rfl fl_X4_12 rfl rfl hT.1.ob hT.2.1 ?_
    refine wk_getR (fi := 3) (q := 88) dX4_ask_85 rfl fl_X4_114 rfl rfl hT.2.2.ob hT.2.2.r3 ?_
    refine wk_iload_n (i := 2) (q := 89) dX4_ask_88 rfl rfl rfl ?_
    refine wk_iald (q := 90) dX4_ask_89 rfl hT.2.2.s3 (by omega) ?_
    refine wk_iload (i := 5) (q := 92) dX4_ask_90 rfl rfl ?_
    refine wk_imul (q := 93) dX4_ask_92 rfl ?_
    refine wk_iadd (q := 94) dX4_ask_93 rfl ?_
    refine wk_iast (q := 95) dX4_ask_94 rfl hT.1.s11 (by omega) ?_
    obtain ⟨I4, hI4⟩ : ∃ I4, I4 = up I3 (t + 36) (C.od s) (I3 (t + 36) (C.od s) + I3 (o + 4) (C.od s) * T.wo (tgt C s) d) := ⟨_, rfl⟩
    rw [← hI4]
    refine wk_aload_n (i := 0) (q := 96) dX4_ask_95 rfl rfl rfl ?_
    refine wk_getR (fi := 12) (q := 99) dX4_ask_96 rfl fl_X4_46 rfl rfl hT.1.ob hT.1.r12 ?_
    refine wk_iload_n (i := 2) (q := 100) dX4_ask_99 rfl rfl rfl ?_
    refine wk_dup2 (q := 101) dX4_ask_100 rfl rfl rfl ?_
    refine wk_iald (q := 102) dX4_ask_101 rfl hT.1.s12 (by omega) ?_
    refine wk_aload_n (i := 0) (q := 103) dX4_ask_102 rfl rfl rfl ?_
    refine wk_getR (fi := 0) (q := 106) dX4_ask_103 rfl fl_X4_12 rfl rfl hT.1.ob hT.2.1 ?_
    refine wk_getR (fi := 1) (q := 109) dX4_ask_106 rfl fl_X4_117 rfl rfl hT.2.2.ob hT.2.2.r1 ?_
    refine wk_iload (i := 4) (q := 111) dX4_ask_109 rfl rfl ?_
    refine wk_iald (q := 112) dX4_ask_111 rfl hT.2.2.s1 (by omega) ?_
    refine wk_iadd (q := 113) dX4_ask_112 rfl ?_
    refine wk_iast (q := 114) dX4_ask_113 rfl hT.1.s12 (by omega) ?_
    refine wk_ret dX4_ask_114 rfl ⟨Nat.le_refl _, Nat.le_refl _⟩ rfl ?_
    first
      | exact ⟨_, _, _, rfl, rfl, rfl, rfl, hnone hc32 _ rfl⟩
      | exact ⟨_, _, _, rfl, rfl, rfl, rfl, hsome hc32 _ _ _ _ _ hI1 hI2 hI3 hI4 rfl⟩
end ASK
