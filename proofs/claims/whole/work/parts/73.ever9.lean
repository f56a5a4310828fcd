/-! the reference's ever -/
theorem frR.o {I I' : qI} {m : Nat} (h : frR I I' m) : frO I I' m 36 := fun b i q => h b i (by omega) (by omega) (by omega)
theorem MI.fr {I I' : qI} {m : Nat} {V : VV} (h : MI I m V) (hf : frR I I' m) : MI I' m V :=
  h.fld ⟨rfl, rfl, rfl, rfl⟩ ⟨rfl, rfl, rfl, rfl⟩ (fun b i q => hf b i (by omega) (by omega) (by omega)) (by rw [hf _ _ (by omega) (by omega) (by omega)]; exact h.2.2.1) (by rw [hf _ _ (by omega) (by omega) (by omega)]; exact h.2.2.2.1)
section EVER9
variable {l : Launch} {E : qEv} {n : Nat} {sh : qSh} {I L : qI} {R : qR}
theorem om_ever {m : Nat} {V : VV} {w : Int} (hM : qMod E.2.2 n sh R m) (h : MI I m V) (hw : in32 w) :
    Ct l E 6 mX7_ever [.ref m, .int (zI w)] (n, sh, I, L, R) 0 0 (qZ n sh (mpZ m I L R (r_ever V w) V)) := by
  have hng := h.1.ng
  have e5 := h.2.2.2.2.2.1.1
  refine Ct.of (lo := [(0, _), (1, _)]) ok_X7_ever (Nat.le_of_ble_eq_true rfl) rfl ?_
  refine wk_iload_n (i := 1) (q := 1) dX7_ever_0 rfl rfl rfl ?_
  refine wk_iconst (q := 2) dX7_ever_1 rfl ?_
  refine wk_iconst (q := 3) dX7_ever_2 rfl ?_
  refine wk_sP3 (q := 6) dX7_ever_3 rfl sl_X7_121 (ct_X7_within hw (by omega) (by omega)) (qRo_m ok_X7_within (by decide) (Nat.le_refl _) (Nat.le_refl _)) (Nat.le_of_ble_eq_true rfl) (fun v3 hv3 => ?_)
  rcases hv3 with ⟨rfl, hv3⟩ | ⟨rfl, hv3⟩
  · refine wk_if_ne (t := 12) (q := 9) dX7_ever_6 rfl rfl (by omega) (fun _ => ?_) (fun hq => absurd hq (by decide))
    refine wk_aload_n (i := 0) (q := 13) dX7_ever_12 rfl rfl rfl ?_
    refine wk_cP0 (q := 16) dX7_ever_13 rfl vl_X7_190 ⟨_, _, rfl⟩ hM.ob (ct_X7_isTable hM (by omega)) (qRo_m ok_X7_isTable (by decide) (Nat.le_refl _) (Nat.le_refl _)) (Nat.le_of_ble_eq_true rfl) (fun v13 hv13 => ?_)
    rcases hv13 with ⟨rfl, hv13⟩ | ⟨rfl, hv13⟩
    · rw [e5] at hv13
      refine wk_if_ne (t := 22) (q := 19) dX7_ever_16 rfl rfl (by omega) (fun _ => ?_) (fun hq => absurd hq (by decide))
      refine wk_aload_n (i := 0) (q := 23) dX7_ever_22 rfl rfl rfl ?_
      refine wk_cV0 (q := 26) dX7_ever_23 rfl vl_X7_224 ⟨_, _, rfl⟩ hM.ob (ct_lay hM h (by omega)) (qRo_m ok_X7_layNow (by decide) (Nat.le_refl _) (Nat.le_refl _)) (Nat.le_of_ble_eq_true rfl) (fun I23 L23 R23 hv23 => ?_)
      obtain ⟨rfl, rfl, h1, f1, f2, f3, f4⟩ := hv23
      obtain ⟨t1, t2, t3⟩ := h.1.tab hv13
      refine wk_aload_n (i := 0) (q := 27) dX7_ever_26 rfl rfl rfl ?_
      refine wk_cV0 (q := 30) dX7_ever_27 rfl vl_X7_290 ⟨_, _, rfl⟩ hM.ob (ct_X7_findRing hM t1 t2.1 (fun g g0 g1 => t2.all g0 g1) (mS_now t2) h1.2.2.2.2.2.1 f2 f4 f3 t3) (qRo_m ok_X7_findRing (by decide) (Nat.le_refl _) (Nat.le_refl _)) (Nat.le_of_ble_eq_true rfl) (fun I27 L27 R27 hv27 => ?_)
      obtain ⟨rfl, rfl, g1, g2, g3, g4, g5, g6, g7⟩ := hv27
      refine wk_iload_n (i := 1) (q := 31) dX7_ever_30 rfl rfl rfl ?_
      refine wk_if_ne (t := 41) (q := 34) dX7_ever_31 rfl rfl (by omega) (fun hc31 => ?_) (fun hc31 => ?_)
      · refine wk_aload_n (i := 0) (q := 42) dX7_ever_41 rfl rfl rfl ?_
        refine wk_getI (fi := 46) (q := 45) dX7_ever_42 rfl fl_X7_287 rfl rfl hM.ob ?_
        refine wk_iret dX7_ever_45 rfl ⟨Nat.le_refl _, Nat.le_refl _⟩ rfl ?_
        refine ⟨_, _, _, _, rfl, rfl, ?_, h1.fr g1, f1.n.o.tr g1.o, rfl, rfl⟩
        unfold r_ever
        rw [if_neg (by omega), if_neg (by omega)]
        first
          | (rw [if_pos hc31]; exact g6)
          | (rw [if_neg hc31]; exact g7)
      · refine wk_aload_n (i := 0) (q := 35) dX7_ever_34 rfl rfl rfl ?_
        refine wk_getI (fi := 45) (q := 38) dX7_ever_35 rfl fl_X7_281 rfl rfl hM.ob ?_
        refine wk_goto (t := 45) dX7_ever_38 rfl ?_
        refine wk_iret dX7_ever_45 rfl ⟨Nat.le_refl _, Nat.le_refl _⟩ rfl ?_
        refine ⟨_, _, _, _, rfl, rfl, ?_, h1.fr g1, f1.n.o.tr g1.o, rfl, rfl⟩
        unfold r_ever
        rw [if_neg (by omega), if_neg (by omega)]
        first
          | (rw [if_pos hc31]; exact g6)
          | (rw [if_neg hc31]; exact g7)
    · rw [e5] at hv13
      refine wk_if_ne (t := 22) (q := 19) dX7_ever_16 rfl rfl (by omega) (fun hq => absurd hq (by decide)) (fun _ => ?_)
      refine wk_bipush (q := 21) dX7_ever_19 rfl (by decide +kernel) ?_
      refine wk_iret dX7_ever_21 rfl ⟨Nat.le_refl _, Nat.le_refl _⟩ rfl ?_
      refine mp_same h rfl ?_
      unfold r_ever
      first
        | rw [if_pos (by omega)]
        | rw [if_neg (by omega), if_pos hv13]
  · refine wk_if_ne (t := 12) (q := 9) dX7_ever_6 rfl rfl (by omega) (fun hq => absurd hq (by decide)) (fun _ => ?_)
    refine wk_bipush (q := 11) dX7_ever_9 rfl (by decide +kernel) ?_
    refine wk_iret dX7_ever_11 rfl ⟨Nat.le_refl _, Nat.le_refl _⟩ rfl ?_
    refine mp_same h rfl ?_
    unfold r_ever
    first
      | rw [if_pos (by omega)]
      | rw [if_neg (by omega), if_pos hv13]
end EVER9
