/-! the reference's gladInRing, mean -/
section MEAN
variable {l : Launch} {E : qEv} {n : Nat} {sh : qSh} {I L : qI} {R : qR}
theorem ct_X7_gladInRing {m : Nat} {T : TT} {C : CC} {la : Int → Int} {g : Int} (hM : qMod E.2.2 n sh R m) (hok : T.ok) (hC : C.ok T) (hall : ∀ g, 0 ≤ g → g < T.ng → ∃ s, 0 ≤ s ∧ s < C.se ∧ tgt C s = g) (hsp : mS C = -9) (hmT : mT I m T) (hmC : mC I m T C) (h33 : I m 33 = -9) (hla : ∀ g, 0 ≤ g → g < T.ng → I (m + 20) g = la g) (hLA : LA2 T la) (hg : 0 ≤ g ∧ g < T.ng) :
    Ct l E 6 mX7_gladInRing [.ref m, .int (zI g)] (n, sh, I, L, R) 0 0 (qJ n sh (fun v I' L' R' => v = gladS T C la (ringL T C la).toNat g ∧ L' = L ∧ R' = R ∧ frR I I' m ∧ I' m 46 = ringL T C la)) := by
  have hn := hok.2.1
  have hE := Er_ok hok hC hall (la := la)
  have hr : ringL T C la = (Er T C la : Int) - tailE T C la := rfl
  have sq := seqM_la2 hok (C := C) hLA
  have hG := gladS_in hok hC (la := la) hg.1 hg.2
  obtain ⟨e0, he0⟩ : ∃ e0, e0 = Er T C la := ⟨_, rfl⟩
  have loop : ∀ k : Nat, k ≤ (ringL T C la).toNat → ∀ I1 : qI, frR I I1 m → mT I1 m T → mC I1 m T C → I1 m 33 = -9 → (∀ g, 0 ≤ g → g < T.ng → I1 (m + 20) g = seqM T C la (e0 + k) g) → I1 m 46 = ringL T C la → Wk l E (qmo E 6 n 0 0 (qJ n sh (fun v I' L' R' => v = gladS T C la (ringL T C la).toNat g ∧ L' = L ∧ R' = R ∧ frR I I' m ∧ I' m 46 = ringL T C la))) mX7_gladInRing 0 0 9
      [(0, .ref m), (1, .int (zI g)), (2, .long (zL (gladS T C la k g))), (4, .int (zI (k : Int)))] [] (n, sh, I1, L, R) := by
    refine up_ind (ringL T C la).toNat ?_ ?_
    · intro I1 f1 f2 f3 f4 f5 f6
      refine wk_iload (i := 4) (q := 11) dX7_gladInRing_9 rfl rfl ?_
      refine wk_aload_n (i := 0) (q := 12) dX7_gladInRing_11 rfl rfl rfl ?_
      refine wk_getI (fi := 46) (q := 15) dX7_gladInRing_12 rfl fl_X7_287 rfl rfl hM.ob ?_
      refine wk_icmp_ge (t := 38) (q := 18) dX7_gladInRing_15 rfl rfl (by omega) (by omega) (fun hc15 => ?_) (fun hc15 => ?_)
      · refine wk_lload_n (i := 2) (q := 39) dX7_gladInRing_38 rfl rfl rfl ?_
        refine wk_lret dX7_gladInRing_39 rfl ⟨Nat.le_refl _, Nat.le_refl _⟩ rfl ?_
        exact ⟨_, _, _, _, rfl, rfl, rfl, rfl, rfl, f1, f6⟩
      · omega
    · intro k hk ih I1 f1 f2 f3 f4 f5 f6
      have q := evE_gl hok hC (la := seqM T C la (e0 + k)) hg.1 hg.2
      have gs : gladS T C la (k + 1) g = gladS T C la k g + (evE T C (seqM T C la (e0 + k))).gl g := by rw [he0]; rfl
      refine wk_iload (i := 4) (q := 11) dX7_gladInRing_9 rfl rfl ?_
      refine wk_aload_n (i := 0) (q := 12) dX7_gladInRing_11 rfl rfl rfl ?_
      refine wk_getI (fi := 46) (q := 15) dX7_gladInRing_12 rfl fl_X7_287 rfl rfl hM.ob ?_
      refine wk_icmp_ge (t := 38) (q := 18) dX7_gladInRing_15 rfl rfl (by omega) (by omega) (fun hc15 => ?_) (fun hc15 => ?_)
      · omega
      · refine wk_aload_n (i := 0) (q := 19) dX7_gladInRing_18 rfl rfl rfl ?_
        refine wk_cV0 (q := 22) dX7_gladInRing_19 rfl vl_X7_227 ⟨_, _, rfl⟩ hM.ob (ct_nightC (la := seqM T C la (e0 + k)) hM hok hC f2 f3 f5 (sq _).ok (f4.trans hsp.symm)) (qRo_m ok_X7_goNight (by decide) (Nat.le_refl _) (Nat.le_refl _)) (Nat.le_of_ble_eq_true rfl) (fun I19 L19 R19 hv19 => ?_)
        obtain ⟨rfl, rfl, g1, g2, g3⟩ := hv19
        have eg : I19 (m + 23) g = (evE T C (seqM T C la (e0 + k))).gl g := g3.2.2.2.1 g hg.1 hg.2
        refine wk_lload_n (i := 2) (q := 23) dX7_gladInRing_22 rfl rfl rfl ?_
        refine wk_aload_n (i := 0) (q := 24) dX7_gladInRing_23 rfl rfl rfl ?_
        refine wk_getR (fi := 35) (q := 27) dX7_gladInRing_24 rfl fl_X7_76 rfl rfl hM.ob hM.r35 ?_
        refine wk_iload_n (i := 1) (q := 28) dX7_gladInRing_27 rfl rfl rfl ?_
        refine wk_iald (q := 29) dX7_gladInRing_28 rfl hM.s35 (by omega) ?_
        rw [eg]
        refine wk_i2l (q := 30) dX7_gladInRing_29 rfl (by omega) ?_
        refine wk_ladd (q := 31) dX7_gladInRing_30 rfl ?_
        refine wk_lstore_n (i := 2) (lo' := [(0, _), (1, _), (2, _), (4, _)]) (q := 32) dX7_gladInRing_31 rfl rfl (by decide) rfl ?_
        refine wk_iinc (lo' := [(0, _), (1, _), (2, _), (4, _)]) (q := 35) dX7_gladInRing_32 rfl rfl (by decide) rfl ?_
        refine wk_goto (t := 9) dX7_gladInRing_35 rfl ?_
        skip
        have ih' := ih I19 (fun b i q0 q1 q2 => by rw [g1 _ _ (by omega) (by omega)]; exact f1 b i q0 q1 q2) (f2.cg (fun b i q => g1 b i (by omega) (by omega))) g2 g3.2.1 (fun g' q0 q1 => (g3.2.2.1.2 g' q0 q1).1) (by rw [g1 _ _ (by omega) (by omega)]; exact f6)
        rw [gs] at ih'
        exact ih'
  refine Ct.of (lo := [(0, _), (1, _)]) ok_X7_gladInRing (Nat.le_of_ble_eq_true rfl) rfl ?_
  refine wk_aload_n (i := 0) (q := 1) dX7_gladInRing_0 rfl rfl rfl ?_
  refine wk_cV0 (q := 4) dX7_gladInRing_1 rfl vl_X7_290 ⟨_, _, rfl⟩ hM.ob (ct_X7_findRing hM hok hC hall hsp hmT hmC h33 hla hLA) (qRo_m ok_X7_findRing (by decide) (Nat.le_refl _) (Nat.le_refl _)) (Nat.le_of_ble_eq_true rfl) (fun I1 L1 R1 hv1 => ?_)
  obtain ⟨rfl, rfl, g1, g2, g3, g4, g5, g6, g7⟩ := hv1
  rw [← he0] at g5
  refine wk_lconst (z := 0) (q := 5) dX7_gladInRing_4 rfl rfl ?_
  refine wk_lstore_n (i := 2) (lo' := [(0, _), (1, _), (2, _)]) (q := 6) dX7_gladInRing_5 rfl rfl (by decide) rfl ?_
  refine wk_iconst (q := 7) dX7_gladInRing_6 rfl ?_
  refine wk_istore (i := 4) (lo' := [(0, _), (1, _), (2, _), (4, _)]) (q := 9) dX7_gladInRing_7 rfl (by decide) rfl ?_
  exact loop 0 (Nat.zero_le _) _ g1 g2 g3 g4 g5 g7
theorem om_mean {m : Nat} {V : VV} {g w : Int} (hM : qMod E.2.2 n sh R m) (h : MI I m V) (hg : in32 g) (hw : in32 w) :
    Ct l E 7 mX7_mean [.ref m, .int (zI g), .int (zI w)] (n, sh, I, L, R) 0 0 (qJ n sh (mpZ m I L R (r_mean V g w) V)) := by
  have hng := h.1.ng
  have e5 := h.2.2.2.2.2.1.1
  refine Ct.of (lo := [(0, _), (1, _), (2, _)]) ok_X7_mean (Nat.le_of_ble_eq_true rfl) rfl ?_
  refine wk_aload_n (i := 0) (q := 1) dX7_mean_0 rfl rfl rfl ?_
  refine wk_iload_n (i := 1) (q := 2) dX7_mean_1 rfl rfl rfl ?_
  refine wk_cP1 (q := 5) dX7_mean_2 rfl vl_X7_184 ⟨_, _, rfl⟩ hM.ob (ct_X7_isGuest hM hg (by omega)) (qRo_m ok_X7_isGuest (by decide) (Nat.le_refl _) (Nat.le_refl _)) (Nat.le_of_ble_eq_true rfl) (fun v2 hv2 => ?_)
  rcases hv2 with ⟨rfl, hv2⟩ | ⟨rfl, hv2⟩
  · rw [e5] at hv2
    refine wk_if_eq (t := 17) (q := 8) dX7_mean_5 rfl rfl (by omega) (fun hq => absurd hq (by decide)) (fun _ => ?_)
    refine wk_iload_n (i := 2) (q := 9) dX7_mean_8 rfl rfl rfl ?_
    refine wk_iconst (q := 10) dX7_mean_9 rfl ?_
    refine wk_iconst (q := 11) dX7_mean_10 rfl ?_
    refine wk_sP3 (q := 14) dX7_mean_11 rfl sl_X7_121 (ct_X7_within hw (by omega) (by omega)) (qRo_m ok_X7_within (by decide) (Nat.le_refl _) (Nat.le_refl _)) (Nat.le_of_ble_eq_true rfl) (fun v11 hv11 => ?_)
    rcases hv11 with ⟨rfl, hv11⟩ | ⟨rfl, hv11⟩
    · refine wk_if_ne (t := 21) (q := 17) dX7_mean_14 rfl rfl (by omega) (fun _ => ?_) (fun hq => absurd hq (by decide))
      refine wk_aload_n (i := 0) (q := 22) dX7_mean_21 rfl rfl rfl ?_
      refine wk_cV0 (q := 25) dX7_mean_22 rfl vl_X7_224 ⟨_, _, rfl⟩ hM.ob (ct_lay hM h (by omega)) (qRo_m ok_X7_layNow (by decide) (Nat.le_refl _) (Nat.le_refl _)) (Nat.le_of_ble_eq_true rfl) (fun I22 L22 R22 hv22 => ?_)
      obtain ⟨rfl, rfl, h1, f1, f2, f3, f4⟩ := hv22
      obtain ⟨t1, t2, t3⟩ := h.1.tab (by omega)
      have hE := Er_ok t1 t2.1 (fun g g0 g1 => t2.all g0 g1) (la := V.la)
      have hr : ringL V.T V.C V.la = (Er V.T V.C V.la : Int) - tailE V.T V.C V.la := rfl
      have hG := gladS_in t1 t2.1 (la := V.la) hv2.1 hv2.2 (ringL V.T V.C V.la).toNat
      refine wk_aload_n (i := 0) (q := 26) dX7_mean_25 rfl rfl rfl ?_
      refine wk_iload_n (i := 1) (q := 27) dX7_mean_26 rfl rfl rfl ?_
      refine wk_cJ1 (q := 30) dX7_mean_27 rfl vl_X7_293 ⟨_, _, rfl⟩ hM.ob (ct_X7_gladInRing hM t1 t2.1 (fun g g0 g1 => t2.all g0 g1) (mS_now t2) h1.2.2.2.2.2.1 f2 f4 f3 t3 hv2) (qRo_m ok_X7_gladInRing (by decide) (Nat.le_refl _) (Nat.le_refl _)) (Nat.le_of_ble_eq_true rfl) (fun v27 I27 L27 R27 hv27 => ?_)
      obtain ⟨hv, rfl, rfl, g1, g2⟩ := hv27
      rw [← hv] at hG
      refine wk_lstore_n (i := 3) (lo' := [(0, _), (1, _), (2, _), (3, _)]) (q := 31) dX7_mean_30 rfl rfl (by decide) rfl ?_
      refine wk_lload_n (i := 3) (q := 32) dX7_mean_31 rfl rfl rfl ?_
      refine wk_aload_n (i := 0) (q := 33) dX7_mean_32 rfl rfl rfl ?_
      refine wk_getI (fi := 46) (q := 36) dX7_mean_33 rfl fl_X7_287 rfl rfl hM.ob ?_
      rw [g2]
      refine wk_i2l (q := 37) dX7_mean_36 rfl (by omega) ?_
      refine wk_iload_n (i := 2) (q := 38) dX7_mean_37 rfl rfl rfl ?_
      refine wk_sJ3 (q := 41) dX7_mean_38 rfl sl_X7_234 (ct_X7_share (by omega) (by omega) (by omega)) (qRo_m ok_X7_share (by decide) (Nat.le_refl _) (Nat.le_refl _)) (Nat.le_of_ble_eq_true rfl) (fun v38 I38 L38 R38 hv38 => ?_)
      obtain ⟨rfl, rfl, rfl, rfl⟩ := hv38
      refine wk_lret dX7_mean_41 rfl ⟨Nat.le_refl _, Nat.le_refl _⟩ rfl ?_
      refine ⟨_, _, _, _, rfl, rfl, ?_, h1.fr g1, f1.n.o.tr g1.o, rfl, rfl⟩
      unfold r_mean
      rw [if_pos (by omega), ← hv]
    · refine wk_if_ne (t := 21) (q := 17) dX7_mean_14 rfl rfl (by omega) (fun hq => absurd hq (by decide)) (fun _ => ?_)
      refine wk_ldc2 (z := (-9223372036854775808)) (q := 20) dX7_mean_17 rfl (v := (-9223372036854775808)) (qtb_in 1088 (by decide +kernel) (by decide +kernel)) rfl ?_
      refine wk_lret dX7_mean_20 rfl ⟨Nat.le_refl _, Nat.le_refl _⟩ rfl ?_
      refine mp_sameJ h rfl ?_
      unfold r_mean
      first
        | rw [if_neg (fun q => hv2 q.1)]
        | rw [if_neg (by omega)]
  · rw [e5] at hv2
    refine wk_if_eq (t := 17) (q := 8) dX7_mean_5 rfl rfl (by omega) (fun _ => ?_) (fun hq => absurd hq (by decide))
    refine wk_ldc2 (z := (-9223372036854775808)) (q := 20) dX7_mean_17 rfl (v := (-9223372036854775808)) (qtb_in 1088 (by decide +kernel) (by decide +kernel)) rfl ?_
    refine wk_lret dX7_mean_20 rfl ⟨Nat.le_refl _, Nat.le_refl _⟩ rfl ?_
    refine mp_sameJ h rfl ?_
    unfold r_mean
    first
      | rw [if_neg (fun q => hv2 q.1)]
      | rw [if_neg (by omega)]
end MEAN
