/-! the class's ever, mean -/
theorem gladS_in {T : TT} (hT : T.ok) {C : CC} (hC : C.ok T) {la : Int → Int} {g : Int} (g0 : 0 ≤ g) (g1 : g < T.ng) : ∀ k : Nat, 0 ≤ gladS T C la k g ∧ gladS T C la k g ≤ 1368 * k
  | 0 => by
    show (0 : Int) ≤ 0 ∧ (0 : Int) ≤ 1368 * ((0 : Nat) : Int)
    omega
  | k + 1 => by
    have ih := gladS_in hT hC (la := la) g0 g1 k
    have h := evE_gl hT hC (la := seqM T C la (Er T C la + k)) g0 g1
    show 0 ≤ gladS T C la k g + (evE T C (seqM T C la (Er T C la + k))).gl g ∧ gladS T C la k g + (evE T C (seqM T C la (Er T C la + k))).gl g ≤ 1368 * ((k + 1 : Nat) : Int)
    omega
def r_ever (V : VV) (w : Int) : Int := if ¬ (w = 0 ∨ w = 1) then -2 else if ¬ 0 < V.T.ng then -3 else if w = 0 then tailE V.T V.C V.la else ringL V.T V.C V.la
def r_mean (V : VV) (g w : Int) : Int := if (0 ≤ g ∧ g < V.T.ng) ∧ (w = 0 ∨ w = 1) then shareR (gladS V.T V.C V.la (ringL V.T V.C V.la).toNat g) (ringL V.T V.C V.la) w else -9223372036854775808
section EVER5
variable {l : Launch} {E : qEv} {n : Nat} {sh : qSh} {I L : qI} {R : qR}
theorem ct_X6_walkOn {x : Nat} {V : VV} {o d w1 w2 w3 : Nat} (h : CI0 E.2.2 n sh x I L R V o d w1 w2 w3) (hp : 0 < V.T.ng) :
    Ct l E 6 mX6_walkOn [.ref x] (n, sh, I, L, R) 0 0 (qV n sh (fun I' L' R' => L' = L ∧ R' = up R (x + 68) 0 o ∧ CI0 E.2.2 n sh x I' L R' V o d w1 o w3 ∧ frO I I' x 167 ∧ I' (x + 144) 2 = tailE V.T V.C V.la ∧ I' (x + 144) 3 = ringL V.T V.C V.la ∧ ∀ g, 0 ≤ g → g < V.T.ng → I' (x + 144 + 1) g = gladS V.T V.C V.la (ringL V.T V.C V.la).toNat g)) := by
  have hX := h.1
  obtain ⟨t1, t2, t3, -⟩ := h.full hp
  have hot := h.otx
  refine Ct.of (lo := [(0, _)]) ok_X6_walkOn (Nat.le_of_ble_eq_true rfl) rfl ?_
  refine wk_aload_n (i := 0) (q := 1) dX6_walkOn_0 rfl rfl rfl ?_
  refine wk_getR (fi := 4) (q := 4) dX6_walkOn_1 rfl fl_X6_34 rfl rfl hX.ob hX.r4 ?_
  refine wk_aload_n (i := 0) (q := 5) dX6_walkOn_4 rfl rfl rfl ?_
  refine wk_getR (fi := 3) (q := 8) dX6_walkOn_5 rfl fl_X6_30 rfl rfl hX.ob hX.r3 ?_
  refine wk_cV1 (q := 11) dX6_walkOn_8 rfl vl_X6_198 ⟨_, _, rfl⟩ hX.t4.1.ob (ct_tri h hp) (qRo_m ok_X4_become (by decide) (Nat.le_refl _) (Nat.le_refl _)) (Nat.le_of_ble_eq_true rfl) (fun I8 L8 R8 hv8 => ?_)
  obtain ⟨rfl, rfl, h2, f1, f2, f3, f4⟩ := hv8
  have hX := h2.1
  refine wk_aload_n (i := 0) (q := 12) dX6_walkOn_11 rfl rfl rfl ?_
  refine wk_getR (fi := 6) (q := 15) dX6_walkOn_12 rfl fl_X6_43 rfl rfl hX.ob hX.r6 ?_
  refine wk_aload_n (i := 0) (q := 16) dX6_walkOn_15 rfl rfl rfl ?_
  refine wk_getR (fi := 4) (q := 19) dX6_walkOn_16 rfl fl_X6_34 rfl rfl hX.ob hX.r4 ?_
  refine wk_cV1 (q := 22) dX6_walkOn_19 rfl vl_X6_219 ⟨_, _, rfl⟩ hX.o6.ob (ct_X1_walk (la := V.la) hX.o6 hX.t4 (by omega) (by omega) t1 t2.1 (fun g g0 g1 => t2.all g0 g1) t2.2.2.2.1 h2.2.2.2.2.2.2.2.1.1 f2 f3 f4 t3) (qRo_m ok_X1_walk (by decide) (Nat.le_refl _) (Nat.le_refl _)) (Nat.le_of_ble_eq_true rfl) (fun I19 L19 R19 hv19 => ?_)
  obtain ⟨rfl, rfl, g1, g2, g3, g4⟩ := hv19
  refine wk_ret dX6_walkOn_22 rfl ⟨Nat.le_refl _, Nat.le_refl _⟩ rfl ?_
  refine ⟨_, _, _, rfl, rfl, rfl, rfl, h2.scr hX ⟨rfl, rfl, rfl, rfl, rfl, rfl, rfl⟩ (fun b i q1 q2 => g1 b i (by omega) (by omega)) ?_ ?_ ?_, fun b i q => ?_, g2, g3, g4⟩
  · rw [g1 _ _ (by omega) (by omega)]
    exact h2.2.2.2.1
  · rw [g1 _ _ (by omega) (by omega)]
    exact h2.2.2.2.2.1
  · rw [g1 _ _ (by omega) (by omega)]
    exact h2.2.2.2.2.2.1
  · rw [g1 _ _ (by omega) (by omega)]
    exact f1 b i (by omega)
theorem oc_ever {x : Nat} {V : VV} {w : Int} (h : CI E.2.2 n sh x I L R V) (hw : in32 w) :
    Ct l E 7 mX6_ever [.ref x, .int (zI w)] (n, sh, I, L, R) 0 0 (qZ n sh (cpZ E.2.2 n sh x I R (r_ever V w) V)) := by
  obtain ⟨o, dr, w1, w2, w3, hh⟩ := id h
  obtain ⟨hX, hod, hok, h10, h11, h12, hS, hT, hB, hC⟩ := id hh
  have hng := hok.ng
  have e7 := hT.1.2.1
  refine Ct.of (lo := [(0, _), (1, _)]) ok_X6_ever (Nat.le_of_ble_eq_true rfl) rfl ?_
  refine wk_iload_n (i := 1) (q := 1) dX6_ever_0 rfl rfl rfl ?_
  refine wk_sP1 (q := 4) dX6_ever_1 rfl sl_X6_163 (ct_X6_isOneOfTwo hw) (qRo_m ok_X6_isOneOfTwo (by decide) (Nat.le_refl _) (Nat.le_refl _)) (Nat.le_of_ble_eq_true rfl) (fun v1 hv1 => ?_)
  rcases hv1 with ⟨rfl, hv1⟩ | ⟨rfl, hv1⟩
  · refine wk_if_ne (t := 10) (q := 7) dX6_ever_4 rfl rfl (by omega) (fun _ => ?_) (fun hq => absurd hq (by decide))
    refine wk_aload_n (i := 0) (q := 11) dX6_ever_10 rfl rfl rfl ?_
    refine wk_cP0 (q := 14) dX6_ever_11 rfl vl_X6_138 ⟨_, _, rfl⟩ hX.ob (ct_X6_isTable hX (by omega)) (qRo_m ok_X6_isTable (by decide) (Nat.le_refl _) (Nat.le_refl _)) (Nat.le_of_ble_eq_true rfl) (fun v11 hv11 => ?_)
    rcases hv11 with ⟨rfl, hv11⟩ | ⟨rfl, hv11⟩
    · rw [e7] at hv11
      refine wk_if_ne (t := 20) (q := 17) dX6_ever_14 rfl rfl (by omega) (fun _ => ?_) (fun hq => absurd hq (by decide))
      refine wk_aload_n (i := 0) (q := 21) dX6_ever_20 rfl rfl rfl ?_
      refine wk_cV0 (q := 24) dX6_ever_21 rfl vl_X6_208 ⟨_, _, rfl⟩ hX.ob (ct_X6_walkOn hh hv11) (qRo_m ok_X6_walkOn (by decide) (Nat.le_refl _) (Nat.le_refl _)) (Nat.le_of_ble_eq_true rfl) (fun I21 L21 R21 hv21 => ?_)
      obtain ⟨rfl, rfl, h2, f1, f2, f3, f4⟩ := hv21
      have hX := h2.1
      refine wk_iload_n (i := 1) (q := 25) dX6_ever_24 rfl rfl rfl ?_
      refine wk_if_ne (t := 38) (q := 28) dX6_ever_25 rfl rfl (by omega) (fun hc25 => ?_) (fun hc25 => ?_)
      · refine wk_aload_n (i := 0) (q := 39) dX6_ever_38 rfl rfl rfl ?_
        refine wk_getR (fi := 6) (q := 42) dX6_ever_39 rfl fl_X6_43 rfl rfl hX.ob hX.r6 ?_
        refine wk_getI (fi := 3) (q := 45) dX6_ever_42 rfl fl_X6_214 rfl rfl hX.o6.ob ?_
        refine wk_iret dX6_ever_45 rfl ⟨Nat.le_refl _, Nat.le_refl _⟩ rfl ?_
        refine ⟨_, _, _, _, rfl, rfl, ?_, h2.ci, f1, fun b i q => up_na _ _ _ _ (by omega)⟩
        unfold r_ever
        rw [if_neg (fun q => q hv1), if_neg (fun q => q hv11)]
        first
          | (rw [if_pos hc25]; exact f2)
          | (rw [if_neg hc25]; exact f3)
      · refine wk_aload_n (i := 0) (q := 29) dX6_ever_28 rfl rfl rfl ?_
        refine wk_getR (fi := 6) (q := 32) dX6_ever_29 rfl fl_X6_43 rfl rfl hX.ob hX.r6 ?_
        refine wk_getI (fi := 2) (q := 35) dX6_ever_32 rfl fl_X6_211 rfl rfl hX.o6.ob ?_
        refine wk_goto (t := 45) dX6_ever_35 rfl ?_
        refine wk_iret dX6_ever_45 rfl ⟨Nat.le_refl _, Nat.le_refl _⟩ rfl ?_
        refine ⟨_, _, _, _, rfl, rfl, ?_, h2.ci, f1, fun b i q => up_na _ _ _ _ (by omega)⟩
        unfold r_ever
        rw [if_neg (fun q => q hv1), if_neg (fun q => q hv11)]
        first
          | (rw [if_pos hc25]; exact f2)
          | (rw [if_neg hc25]; exact f3)
    · rw [e7] at hv11
      refine wk_if_ne (t := 20) (q := 17) dX6_ever_14 rfl rfl (by omega) (fun hq => absurd hq (by decide)) (fun _ => ?_)
      refine wk_bipush (q := 19) dX6_ever_17 rfl (by decide +kernel) ?_
      refine wk_iret dX6_ever_19 rfl ⟨Nat.le_refl _, Nat.le_refl _⟩ rfl ?_
      refine cp_same h rfl ?_
      unfold r_ever
      first
        | rw [if_pos hv1]
        | rw [if_neg (fun q => q hv1), if_pos hv11]
  · refine wk_if_ne (t := 10) (q := 7) dX6_ever_4 rfl rfl (by omega) (fun hq => absurd hq (by decide)) (fun _ => ?_)
    refine wk_bipush (q := 9) dX6_ever_7 rfl (by decide +kernel) ?_
    refine wk_iret dX6_ever_9 rfl ⟨Nat.le_refl _, Nat.le_refl _⟩ rfl ?_
    refine cp_same h rfl ?_
    unfold r_ever
    first
      | rw [if_pos hv1]
      | rw [if_neg (fun q => q hv1), if_pos hv11]
theorem oc_mean {x : Nat} {V : VV} {g w : Int} (h : CI E.2.2 n sh x I L R V) (hg : in32 g) (hw : in32 w) :
    Ct l E 7 mX6_mean [.ref x, .int (zI g), .int (zI w)] (n, sh, I, L, R) 0 0 (qJ n sh (cpZ E.2.2 n sh x I R (r_mean V g w) V)) := by
  obtain ⟨o, dr, w1, w2, w3, hh⟩ := id h
  obtain ⟨hX, hod, hok, h10, h11, h12, hS, hT, hB, hC⟩ := id hh
  have hng := hok.ng
  have e7 := hT.1.2.1
  refine Ct.of (lo := [(0, _), (1, _), (2, _)]) ok_X6_mean (Nat.le_of_ble_eq_true rfl) rfl ?_
  refine wk_aload_n (i := 0) (q := 1) dX6_mean_0 rfl rfl rfl ?_
  refine wk_iload_n (i := 1) (q := 2) dX6_mean_1 rfl rfl rfl ?_
  refine wk_cP1 (q := 5) dX6_mean_2 rfl vl_X6_102 ⟨_, _, rfl⟩ hX.ob (ct_X6_isGuest hX hg (by omega)) (qRo_m ok_X6_isGuest (by decide) (Nat.le_refl _) (Nat.le_refl _)) (Nat.le_of_ble_eq_true rfl) (fun v2 hv2 => ?_)
  rcases hv2 with ⟨rfl, hv2⟩ | ⟨rfl, hv2⟩
  · rw [e7] at hv2
    refine wk_if_eq (t := 15) (q := 8) dX6_mean_5 rfl rfl (by omega) (fun hq => absurd hq (by decide)) (fun _ => ?_)
    refine wk_iload_n (i := 2) (q := 9) dX6_mean_8 rfl rfl rfl ?_
    refine wk_sP1 (q := 12) dX6_mean_9 rfl sl_X6_163 (ct_X6_isOneOfTwo hw) (qRo_m ok_X6_isOneOfTwo (by decide) (Nat.le_refl _) (Nat.le_refl _)) (Nat.le_of_ble_eq_true rfl) (fun v9 hv9 => ?_)
    rcases hv9 with ⟨rfl, hv9⟩ | ⟨rfl, hv9⟩
    · refine wk_if_ne (t := 19) (q := 15) dX6_mean_12 rfl rfl (by omega) (fun _ => ?_) (fun hq => absurd hq (by decide))
      refine wk_aload_n (i := 0) (q := 20) dX6_mean_19 rfl rfl rfl ?_
      refine wk_cV0 (q := 23) dX6_mean_20 rfl vl_X6_208 ⟨_, _, rfl⟩ hX.ob (ct_X6_walkOn hh (by omega)) (qRo_m ok_X6_walkOn (by decide) (Nat.le_refl _) (Nat.le_refl _)) (Nat.le_of_ble_eq_true rfl) (fun I20 L20 R20 hv20 => ?_)
      obtain ⟨rfl, rfl, h2, f1, f2, f3, f4⟩ := hv20
      have hX := h2.1
      obtain ⟨t1, t2, t3⟩ := hok.tab (by omega)
      have hE := Er_ok t1 t2.1 (fun g g0 g1 => t2.all g0 g1) (la := V.la)
      have hr : ringL V.T V.C V.la = (Er V.T V.C V.la : Int) - tailE V.T V.C V.la := rfl
      have hG := gladS_in t1 t2.1 (la := V.la) hv2.1 hv2.2 (ringL V.T V.C V.la).toNat
      have eg := f4 g hv2.1 hv2.2
      refine wk_aload_n (i := 0) (q := 24) dX6_mean_23 rfl rfl rfl ?_
      refine wk_getR (fi := 6) (q := 27) dX6_mean_24 rfl fl_X6_43 rfl rfl hX.ob hX.r6 ?_
      refine wk_getR (fi := 0) (q := 30) dX6_mean_27 rfl fl_X6_217 rfl rfl hX.o6.ob hX.o6.r0 ?_
      refine wk_iload_n (i := 1) (q := 31) dX6_mean_30 rfl rfl rfl ?_
      refine wk_iald (q := 32) dX6_mean_31 rfl hX.o6.s0 (by omega) ?_
      refine wk_aload_n (i := 0) (q := 33) dX6_mean_32 rfl rfl rfl ?_
      refine wk_getR (fi := 6) (q := 36) dX6_mean_33 rfl fl_X6_43 rfl rfl hX.ob hX.r6 ?_
      refine wk_getI (fi := 3) (q := 39) dX6_mean_36 rfl fl_X6_214 rfl rfl hX.o6.ob ?_
      refine wk_iload_n (i := 2) (q := 40) dX6_mean_39 rfl rfl rfl ?_
      rw [eg, f3]
      refine wk_sJ3 (q := 43) dX6_mean_40 rfl sl_X6_171 (ct_X6_share (by omega) (by omega) hv9) (qRo_m ok_X6_share (by decide) (Nat.le_refl _) (Nat.le_refl _)) (Nat.le_of_ble_eq_true rfl) (fun v40 I40 L40 R40 hv40 => ?_)
      obtain ⟨rfl, rfl, rfl, rfl⟩ := hv40
      refine wk_lret dX6_mean_43 rfl ⟨Nat.le_refl _, Nat.le_refl _⟩ rfl ?_
      refine ⟨_, _, _, _, rfl, rfl, ?_, h2.ci, f1, fun b i q => up_na _ _ _ _ (by omega)⟩
      unfold r_mean
      rw [if_pos ⟨hv2, hv9⟩]
    · refine wk_if_ne (t := 19) (q := 15) dX6_mean_12 rfl rfl (by omega) (fun hq => absurd hq (by decide)) (fun _ => ?_)
      refine wk_ldc2 (z := (-9223372036854775808)) (q := 18) dX6_mean_15 rfl (v := (-9223372036854775808)) (qtb_in 547 (by decide +kernel) (by decide +kernel)) rfl ?_
      refine wk_lret dX6_mean_18 rfl ⟨Nat.le_refl _, Nat.le_refl _⟩ rfl ?_
      refine cp_sameJ h rfl ?_
      unfold r_mean
      first
        | rw [if_neg (fun q => hv2 q.1)]
        | rw [if_neg (fun q => hv9 q.2)]
  · rw [e7] at hv2
    refine wk_if_eq (t := 15) (q := 8) dX6_mean_5 rfl rfl (by omega) (fun _ => ?_) (fun hq => absurd hq (by decide))
    refine wk_ldc2 (z := (-9223372036854775808)) (q := 18) dX6_mean_15 rfl (v := (-9223372036854775808)) (qtb_in 547 (by decide +kernel) (by decide +kernel)) rfl ?_
    refine wk_lret dX6_mean_18 rfl ⟨Nat.le_refl _, Nat.le_refl _⟩ rfl ?_
    refine cp_sameJ h rfl ?_
    unfold r_mean
    first
      | rw [if_neg (fun q => hv2 q.1)]
      | rw [if_neg (fun q => hv9 q.2)]
end EVER5
