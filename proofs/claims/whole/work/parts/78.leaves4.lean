/-! the reference's leaves -/
theorem lev_mono {V : VV} {g : Int} {j : Nat} (h : lev V g j = 1) : ∀ m : Nat, j ≤ m → lev V g m = 1
  | 0, hm => by
    rw [show (0 : Nat) = j by omega]
    exact h
  | m + 1, hm => by
    by_cases hq : j = m + 1
    · rw [← hq]
      exact h
    · have ih := lev_mono h m (by omega)
      unfold lev
      split
      · rfl
      · exact ih
theorem lev_hit {V : VV} {g : Int} {k : Nat} (h1 : V.T.kd g ≠ k) (h2 : levD V g k = 1) : lev V g (k + 1) = 1 := by
  unfold lev
  rw [if_pos ⟨h1, h2⟩]
theorem lev_no {V : VV} {g : Int} {k : Nat} (h : lev V g k = 0) (h1 : ¬ (V.T.kd g ≠ k ∧ levD V g k = 1)) : lev V g (k + 1) = 0 := by
  unfold lev
  rw [if_neg h1]
  exact h
section LEAVES4
variable {l : Launch} {E : qEv} {n : Nat} {sh : qSh} {I L : qI} {R : qR}
theorem ct_X7_wouldLeave {m : Nat} {V : VV} {g : Int} (hM : qMod E.2.2 n sh R m) (h : MI I m V) (hg : 0 ≤ g ∧ g < V.T.ng) :
    Ct l E 7 mX7_wouldLeave [.ref m, .int (zI g)] (n, sh, I, L, R) 0 0 (qZ n sh (fun v I' L' R' => qBo (lev V g 3 = 1) v ∧ MI I' m V ∧ frO I I' m 36 ∧ L' = L ∧ R' = R)) := by
  have hng := h.1.ng
  obtain ⟨t1, t2, t3⟩ := h.1.tab (by omega)
  have hkd := t1.2.2.2.2.2 g hg.1 hg.2
  have rC := ring_in t1 t2.1 (fun g g0 g1 => t2.all g0 g1) (la := V.la)
  obtain ⟨A, hA⟩ : ∃ A, A = gladS V.T V.C V.la (ringL V.T V.C V.la).toNat g := ⟨_, rfl⟩
  obtain ⟨r, hr⟩ : ∃ r, r = ringL V.T V.C V.la := ⟨_, rfl⟩
  have rA := rC.2.2 g hg.1 hg.2
  rw [← hA] at rA
  rw [← hr] at rC
  have loop : ∀ k : Nat, k ≤ 3 → ∀ I1 : qI, MI I1 m V → frO I I1 m 36 → lev V g k = 0 → Wk l E (qmo E 7 n 0 0 (qZ n sh (fun v I' L' R' => qBo (lev V g 3 = 1) v ∧ MI I' m V ∧ frO I I' m 36 ∧ L' = L ∧ R' = R))) mX7_wouldLeave 0 0 20
      [(0, .ref m), (1, .int (zI g)), (2, .long (zL A)), (4, .long (zL r)), (6, .int (zI (k : Int)))] [] (n, sh, I1, L, R) := by
    refine up_ind 3 ?_ ?_
    · intro I1 h1 f1 f2
      refine wk_iload (i := 6) (q := 22) dX7_wouldLeave_20 rfl rfl ?_
      refine wk_iconst (q := 23) dX7_wouldLeave_22 rfl ?_
      refine wk_icmp_ge (t := 80) (q := 26) dX7_wouldLeave_23 rfl rfl (by omega) (by omega) (fun hc23 => ?_) (fun hc23 => ?_)
      · refine wk_iconst (q := 81) dX7_wouldLeave_80 rfl ?_
        refine wk_zret dX7_wouldLeave_81 rfl (by omega) ⟨Nat.le_refl _, Nat.le_refl _⟩ rfl ?_
        exact ⟨_, _, _, _, rfl, rfl, Or.inr ⟨rfl, by rw [f2]; decide⟩, h1, f1, rfl, rfl⟩
      · omega
    · intro k hk ih I1 h1 f1 f2
      have ekd : I1 (m + 6) g = V.T.kd g := (h1.2.2.2.2.2.1.2.2.2 g hg.1 hg.2).1
      have okK := kdC_ok t2.1 (V := V) (g := g) (k := (k : Int)) (by omega)
      have alK := kdC_all t2 g (k : Int)
      have rK := ring_in t1 okK alK (la := V.la)
      have spK : mS (kdC V g k) = -9 := by
        unfold mS
        rw [show (kdC V g k).sp = V.C.sp from rfl, t2.2.2.2.1, if_pos (by omega)]
      obtain ⟨B, hBB⟩ : ∃ B, B = gladS V.T (kdC V g k) V.la (ringL V.T (kdC V g k) V.la).toNat g := ⟨_, rfl⟩
      obtain ⟨s, hs⟩ : ∃ s, s = ringL V.T (kdC V g k) V.la := ⟨_, rfl⟩
      have rB := rK.2.2 g hg.1 hg.2
      rw [← hBB] at rB
      rw [← hs] at rK
      have hD : levD V g k = if A * s < B * r then 1 else 0 := by
        unfold levD
        rw [hA, hBB, hs, hr]
      have m1 := mul_bd rA (by omega : 0 ≤ s ∧ s ≤ 200)
      have m2 := mul_bd rB (by omega : 0 ≤ r ∧ r ≤ 200)
      refine wk_iload (i := 6) (q := 22) dX7_wouldLeave_20 rfl rfl ?_
      refine wk_iconst (q := 23) dX7_wouldLeave_22 rfl ?_
      refine wk_icmp_ge (t := 80) (q := 26) dX7_wouldLeave_23 rfl rfl (by omega) (by omega) (fun hc23 => ?_) (fun hc23 => ?_)
      · omega
      · refine wk_iload (i := 6) (q := 28) dX7_wouldLeave_26 rfl rfl ?_
        refine wk_aload_n (i := 0) (q := 29) dX7_wouldLeave_28 rfl rfl rfl ?_
        refine wk_getR (fi := 9) (q := 32) dX7_wouldLeave_29 rfl fl_X7_25 rfl rfl hM.ob hM.r9 ?_
        refine wk_iload_n (i := 1) (q := 33) dX7_wouldLeave_32 rfl rfl rfl ?_
        refine wk_iald (q := 34) dX7_wouldLeave_33 rfl hM.s9 (by omega) ?_
        rw [ekd]
        refine wk_icmp_eq (t := 74) (q := 37) dX7_wouldLeave_34 rfl rfl (by omega) (by omega) (fun hc34 => ?_) (fun hc34 => ?_)
        · refine wk_iinc (lo' := [(0, _), (1, _), (2, _), (4, _), (6, _)]) (q := 77) dX7_wouldLeave_74 rfl rfl (by decide) rfl ?_
          refine wk_goto (t := 20) dX7_wouldLeave_77 rfl ?_
          first
          | exact ih I51 h4 kf (lev_no f2 (fun q => by rw [hD, if_neg (by omega)] at q; exact absurd q.2 (by decide)))
          | exact ih I1 h1 f1 (lev_no f2 (fun q => q.1 hc34.symm))
        · refine wk_aload_n (i := 0) (q := 38) dX7_wouldLeave_37 rfl rfl rfl ?_
          refine wk_cV0 (q := 41) dX7_wouldLeave_38 rfl vl_X7_224 ⟨_, _, rfl⟩ hM.ob (ct_lay hM h1 (by omega)) (qRo_m ok_X7_layNow (by decide) (Nat.le_refl _) (Nat.le_refl _)) (Nat.le_of_ble_eq_true rfl) (fun I38 L38 R38 hv38 => ?_)
          obtain ⟨rfl, rfl, h2, j1, j2, j3, j4⟩ := hv38
          refine wk_aload_n (i := 0) (q := 42) dX7_wouldLeave_41 rfl rfl rfl ?_
          refine wk_getR (fi := 32) (q := 45) dX7_wouldLeave_42 rfl fl_X7_70 rfl rfl hM.ob hM.r32 ?_
          refine wk_iload_n (i := 1) (q := 46) dX7_wouldLeave_45 rfl rfl rfl ?_
          refine wk_iload (i := 6) (q := 48) dX7_wouldLeave_46 rfl rfl ?_
          refine wk_iast (q := 49) dX7_wouldLeave_48 rfl hM.s32 (by omega) ?_
          refine wk_aload_n (i := 0) (q := 50) dX7_wouldLeave_49 rfl rfl rfl ?_
          refine wk_iload_n (i := 1) (q := 51) dX7_wouldLeave_50 rfl rfl rfl ?_
          skip
          have h3 : MI (up I38 (m + 21) g (k : Int)) m V := h2.fn (fun b i q0 q1 => up_na _ _ _ _ (by omega))
          have mC' : mC (up I38 (m + 21) g (k : Int)) m V.T (kdC V g k) := by
            obtain ⟨b1, b2, b3, b4, b5⟩ := j2
            refine ⟨by rw [up_na _ _ _ _ (by omega)]; exact b1, by rw [up_na _ _ _ _ (by omega)]; exact b2, by rw [up_na _ _ _ _ (by omega)]; exact b3, fun s s0 s1 => by rw [up_na _ _ _ _ (by omega)]; exact b4 s s0 s1, fun a a0 a1 => ⟨?_, fun b b0 b1' w => by rw [up_na _ _ _ _ (by omega)]; exact (b5 a a0 a1).2 b b0 b1' w⟩⟩
            show _ = u1 V.C.kd g k a
            by_cases hq : a = g
            · rw [hq, up_eq, u1_eq]
            · rw [up_ni _ _ hq, u1_ne hq]
              exact (b5 a a0 a1).1
          refine wk_cJ1 (q := 54) dX7_wouldLeave_51 rfl vl_X7_293 ⟨_, _, rfl⟩ hM.ob (ct_X7_gladInRing (la := V.la) hM t1 okK alK spK h3.2.2.2.2.2.1 mC' (by rw [up_na _ _ _ _ (by omega)]; exact j4) (fun g' g0 g1 => by rw [up_na _ _ _ _ (by omega)]; exact j3 g' g0 g1) t3 hg) (qRo_m ok_X7_gladInRing (by decide) (Nat.le_refl _) (Nat.le_refl _)) (Nat.le_of_ble_eq_true rfl) (fun v51 I51 L51 R51 hv51 => ?_)
          obtain ⟨hv, rfl, rfl, g1, g2⟩ := hv51
          rw [← hBB] at hv
          rw [← hs] at g2
          have h4 := h3.fr g1
          have kf : frO I I51 m 36 := (f1.tr j1.n.o).tr (fun b i q => by rw [g1.o b i q, up_na _ _ _ _ (by omega)])
          rw [hv]
          refine wk_lstore (i := 7) (lo' := [(0, _), (1, _), (2, _), (4, _), (6, _), (7, _)]) (q := 56) dX7_wouldLeave_54 rfl (by decide) rfl ?_
          refine wk_lload (i := 7) (q := 58) dX7_wouldLeave_56 rfl rfl ?_
          refine wk_lload (i := 4) (q := 60) dX7_wouldLeave_58 rfl rfl ?_
          refine wk_lmul (q := 61) dX7_wouldLeave_60 rfl ?_
          refine wk_lload_n (i := 2) (q := 62) dX7_wouldLeave_61 rfl rfl rfl ?_
          refine wk_aload_n (i := 0) (q := 63) dX7_wouldLeave_62 rfl rfl rfl ?_
          refine wk_getI (fi := 46) (q := 66) dX7_wouldLeave_63 rfl fl_X7_287 rfl rfl hM.ob ?_
          rw [g2]
          refine wk_i2l (q := 67) dX7_wouldLeave_66 rfl (by omega) ?_
          refine wk_lmul (q := 68) dX7_wouldLeave_67 rfl ?_
          refine wk_lcmp (q := 69) dX7_wouldLeave_68 rfl (by omega) (by omega) (fun hc68 => ?_) (fun hc68 => ?_) (fun hc68 => ?_)
          · refine wk_if_le (t := 74) (q := 72) dX7_wouldLeave_69 rfl rfl (by omega) (fun hq => absurd hq (by decide)) (fun _ => ?_)
            refine wk_iconst (q := 73) dX7_wouldLeave_72 rfl ?_
            refine wk_zret dX7_wouldLeave_73 rfl (by omega) ⟨Nat.le_refl _, Nat.le_refl _⟩ rfl ?_
            exact ⟨_, _, _, _, rfl, rfl, Or.inl ⟨rfl, lev_mono (lev_hit (fun q => hc34 q.symm) (by rw [hD, if_pos (by omega)])) 3 (by omega)⟩, h4, kf, rfl, rfl⟩
          · refine wk_if_le (t := 74) (q := 72) dX7_wouldLeave_69 rfl rfl (by omega) (fun _ => ?_) (fun hq => absurd hq (by decide))
            refine wk_iinc (lo' := [(0, _), (1, _), (2, _), (4, _), (6, _), (7, _)]) (q := 77) dX7_wouldLeave_74 rfl rfl (by decide) rfl ?_
            refine wk_goto (t := 20) dX7_wouldLeave_77 rfl ?_
            refine wk_del (i := 7) (lo' := [(0, _), (1, _), (2, _), (4, _), (6, _)]) rfl ?_
            first
            | exact ih I51 h4 kf (lev_no f2 (fun q => by rw [hD, if_neg (by omega)] at q; exact absurd q.2 (by decide)))
            | exact ih I1 h1 f1 (lev_no f2 (fun q => q.1 hc34.symm))
          · refine wk_if_le (t := 74) (q := 72) dX7_wouldLeave_69 rfl rfl (by omega) (fun _ => ?_) (fun hq => absurd hq (by decide))
            refine wk_iinc (lo' := [(0, _), (1, _), (2, _), (4, _), (6, _), (7, _)]) (q := 77) dX7_wouldLeave_74 rfl rfl (by decide) rfl ?_
            refine wk_goto (t := 20) dX7_wouldLeave_77 rfl ?_
            refine wk_del (i := 7) (lo' := [(0, _), (1, _), (2, _), (4, _), (6, _)]) rfl ?_
            first
            | exact ih I51 h4 kf (lev_no f2 (fun q => by rw [hD, if_neg (by omega)] at q; exact absurd q.2 (by decide)))
            | exact ih I1 h1 f1 (lev_no f2 (fun q => q.1 hc34.symm))
  refine Ct.of (lo := [(0, _), (1, _)]) ok_X7_wouldLeave (Nat.le_of_ble_eq_true rfl) rfl ?_
  refine wk_aload_n (i := 0) (q := 1) dX7_wouldLeave_0 rfl rfl rfl ?_
  refine wk_cV0 (q := 4) dX7_wouldLeave_1 rfl vl_X7_224 ⟨_, _, rfl⟩ hM.ob (ct_lay hM h (by omega)) (qRo_m ok_X7_layNow (by decide) (Nat.le_refl _) (Nat.le_refl _)) (Nat.le_of_ble_eq_true rfl) (fun I1 L1 R1 hv1 => ?_)
  obtain ⟨rfl, rfl, h1, f1, f2, f3, f4⟩ := hv1
  refine wk_aload_n (i := 0) (q := 5) dX7_wouldLeave_4 rfl rfl rfl ?_
  refine wk_iload_n (i := 1) (q := 6) dX7_wouldLeave_5 rfl rfl rfl ?_
  refine wk_cJ1 (q := 9) dX7_wouldLeave_6 rfl vl_X7_293 ⟨_, _, rfl⟩ hM.ob (ct_X7_gladInRing (la := V.la) hM t1 t2.1 (fun g g0 g1 => t2.all g0 g1) (mS_now t2) h1.2.2.2.2.2.1 f2 f4 f3 t3 hg) (qRo_m ok_X7_gladInRing (by decide) (Nat.le_refl _) (Nat.le_refl _)) (Nat.le_of_ble_eq_true rfl) (fun v6 I6 L6 R6 hv6 => ?_)
  obtain ⟨hv, rfl, rfl, g1, g2⟩ := hv6
  rw [← hA] at hv
  rw [← hr] at g2
  rw [hv]
  refine wk_lstore_n (i := 2) (lo' := [(0, _), (1, _), (2, _)]) (q := 10) dX7_wouldLeave_9 rfl rfl (by decide) rfl ?_
  refine wk_aload_n (i := 0) (q := 11) dX7_wouldLeave_10 rfl rfl rfl ?_
  refine wk_getI (fi := 46) (q := 14) dX7_wouldLeave_11 rfl fl_X7_287 rfl rfl hM.ob ?_
  rw [g2]
  refine wk_i2l (q := 15) dX7_wouldLeave_14 rfl (by omega) ?_
  refine wk_lstore (i := 4) (lo' := [(0, _), (1, _), (2, _), (4, _)]) (q := 17) dX7_wouldLeave_15 rfl (by decide) rfl ?_
  refine wk_iconst (q := 18) dX7_wouldLeave_17 rfl ?_
  refine wk_istore (i := 6) (lo' := [(0, _), (1, _), (2, _), (4, _), (6, _)]) (q := 20) dX7_wouldLeave_18 rfl (by decide) rfl ?_
  exact loop 0 (by omega) _ (h1.fr g1) (f1.n.o.tr g1.o) rfl
theorem om_leaves {m : Nat} {V : VV} (hM : qMod E.2.2 n sh R m) (h : MI I m V) :
    Ct l E 8 mX7_leaves [.ref m] (n, sh, I, L, R) 0 0 (qZ n sh (mpZ m I L R (r_leaves V) V)) := by
  have hng := h.1.ng
  have e5 := h.2.2.2.2.2.1.1
  have loop : 0 < V.T.ng → ∀ g : Nat, g ≤ V.T.ng.toNat → ∀ I1 : qI, MI I1 m V → frO I I1 m 36 → Wk l E (qmo E 8 n 0 0 (qZ n sh (mpZ m I L R (r_leaves V) V))) mX7_leaves 0 0 14
      [(0, .ref m), (1, .int (zI (levS V g))), (2, .int (zI (g : Int)))] [] (n, sh, I1, L, R) := by
    intro hp
    refine up_ind V.T.ng.toNat ?_ ?_
    · intro I1 h1 f1
      have e5' := h1.2.2.2.2.2.1.1
      refine wk_iload_n (i := 2) (q := 15) dX7_leaves_14 rfl rfl rfl ?_
      refine wk_aload_n (i := 0) (q := 16) dX7_leaves_15 rfl rfl rfl ?_
      refine wk_getI (fi := 5) (q := 19) dX7_leaves_16 rfl fl_X7_125 rfl rfl hM.ob ?_
      refine wk_icmp_ge (t := 46) (q := 22) dX7_leaves_19 rfl rfl (by omega) (by omega) (fun hc19 => ?_) (fun hc19 => ?_)
      · refine wk_iload_n (i := 1) (q := 47) dX7_leaves_46 rfl rfl rfl ?_
        refine wk_iret dX7_leaves_47 rfl ⟨Nat.le_refl _, Nat.le_refl _⟩ rfl ?_
        refine ⟨_, _, _, _, rfl, rfl, ?_, h1, f1, rfl, rfl⟩
        unfold r_leaves
        rw [if_pos hp]
      · omega
    · intro g hg ih I1 h1 f1
      have e5' := h1.2.2.2.2.2.1.1
      have li := levS_in (V := V) g (by omega)
      have pi := p2_in (g := (g : Int)) (by omega)
      have e1 : levS V (g + 1) = levS V g + (if lev V g 3 = 1 then p2 g else 0) := rfl
      refine wk_iload_n (i := 2) (q := 15) dX7_leaves_14 rfl rfl rfl ?_
      refine wk_aload_n (i := 0) (q := 16) dX7_leaves_15 rfl rfl rfl ?_
      refine wk_getI (fi := 5) (q := 19) dX7_leaves_16 rfl fl_X7_125 rfl rfl hM.ob ?_
      refine wk_icmp_ge (t := 46) (q := 22) dX7_leaves_19 rfl rfl (by omega) (by omega) (fun hc19 => ?_) (fun hc19 => ?_)
      · omega
      · refine wk_iload_n (i := 1) (q := 23) dX7_leaves_22 rfl rfl rfl ?_
        refine wk_aload_n (i := 0) (q := 24) dX7_leaves_23 rfl rfl rfl ?_
        refine wk_iload_n (i := 2) (q := 25) dX7_leaves_24 rfl rfl rfl ?_
        refine wk_cZ1 (q := 28) dX7_leaves_25 rfl vl_X7_297 ⟨_, _, rfl⟩ hM.ob (ct_X7_wouldLeave hM h1 (by omega)) (qRo_m ok_X7_wouldLeave (by decide) (Nat.le_refl _) (Nat.le_refl _)) (Nat.le_of_ble_eq_true rfl) (fun v25 I25 L25 R25 hv25 => ?_)
        obtain ⟨hv, h2, f2, rfl, rfl⟩ := hv25
        have hb : v25 = 0 ∨ v25 = 1 := by unfold qBo at hv; omega
        unfold qBo at hv
        refine wk_if_eq (t := 37) (q := 31) dX7_leaves_28 rfl rfl (by omega) (fun hc28 => ?_) (fun hc28 => ?_)
        · refine wk_iconst (q := 38) dX7_leaves_37 rfl ?_
          first
          | rw [zShl_p2 (by omega)]
          | skip
          refine wk_ior (q := 39) dX7_leaves_38 rfl ?_
          first
          | (rw [zOr_p2 (by omega) li.1 li.2]
             rw [if_pos (by omega)] at e1
             rw [← e1])
          | (rw [zOr_0 (by omega) (by omega)]
             rw [if_neg (by omega), Int.add_zero] at e1
             rw [← e1])
          refine wk_istore_n (i := 1) (lo' := [(0, _), (1, _), (2, _)]) (q := 40) dX7_leaves_39 rfl rfl (by decide) rfl ?_
          refine wk_iinc (lo' := [(0, _), (1, _), (2, _)]) (q := 43) dX7_leaves_40 rfl rfl (by decide) rfl ?_
          refine wk_goto (t := 14) dX7_leaves_43 rfl ?_
          exact ih _ h2 (f1.tr f2)
        · refine wk_iconst (q := 32) dX7_leaves_31 rfl ?_
          refine wk_iload_n (i := 2) (q := 33) dX7_leaves_32 rfl rfl rfl ?_
          refine wk_ishl (q := 34) dX7_leaves_33 rfl ?_
          refine wk_goto (t := 38) dX7_leaves_34 rfl ?_
          first
          | rw [zShl_p2 (by omega)]
          | skip
          refine wk_ior (q := 39) dX7_leaves_38 rfl ?_
          first
          | (rw [zOr_p2 (by omega) li.1 li.2]
             rw [if_pos (by omega)] at e1
             rw [← e1])
          | (rw [zOr_0 (by omega) (by omega)]
             rw [if_neg (by omega), Int.add_zero] at e1
             rw [← e1])
          refine wk_istore_n (i := 1) (lo' := [(0, _), (1, _), (2, _)]) (q := 40) dX7_leaves_39 rfl rfl (by decide) rfl ?_
          refine wk_iinc (lo' := [(0, _), (1, _), (2, _)]) (q := 43) dX7_leaves_40 rfl rfl (by decide) rfl ?_
          refine wk_goto (t := 14) dX7_leaves_43 rfl ?_
          exact ih _ h2 (f1.tr f2)
  refine Ct.of (lo := [(0, _)]) ok_X7_leaves (Nat.le_of_ble_eq_true rfl) rfl ?_
  refine wk_aload_n (i := 0) (q := 1) dX7_leaves_0 rfl rfl rfl ?_
  refine wk_cP0 (q := 4) dX7_leaves_1 rfl vl_X7_190 ⟨_, _, rfl⟩ hM.ob (ct_X7_isTable hM (by omega)) (qRo_m ok_X7_isTable (by decide) (Nat.le_refl _) (Nat.le_refl _)) (Nat.le_of_ble_eq_true rfl) (fun v1 hv1 => ?_)
  rcases hv1 with ⟨rfl, hv1⟩ | ⟨rfl, hv1⟩
  · rw [e5] at hv1
    refine wk_if_ne (t := 10) (q := 7) dX7_leaves_4 rfl rfl (by omega) (fun _ => ?_) (fun hq => absurd hq (by decide))
    refine wk_iconst (q := 11) dX7_leaves_10 rfl ?_
    refine wk_istore_n (i := 1) (lo' := [(0, _), (1, _)]) (q := 12) dX7_leaves_11 rfl rfl (by decide) rfl ?_
    refine wk_iconst (q := 13) dX7_leaves_12 rfl ?_
    refine wk_istore_n (i := 2) (lo' := [(0, _), (1, _), (2, _)]) (q := 14) dX7_leaves_13 rfl rfl (by decide) rfl ?_
    exact loop hv1 0 (Nat.zero_le _) _ h frO.rf
  · rw [e5] at hv1
    refine wk_if_ne (t := 10) (q := 7) dX7_leaves_4 rfl rfl (by omega) (fun hq => absurd hq (by decide)) (fun _ => ?_)
    refine wk_bipush (q := 9) dX7_leaves_7 rfl (by decide +kernel) ?_
    refine wk_iret dX7_leaves_9 rfl ⟨Nat.le_refl _, Nat.le_refl _⟩ rfl ?_
    refine mp_same h rfl ?_
    unfold r_leaves
    rw [if_neg hv1]
end LEAVES4
