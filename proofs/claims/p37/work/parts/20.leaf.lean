/-! small methods -/
def qBo (c : Prop) (v : Int) : Prop := (v = 1 ∧ c) ∨ (v = 0 ∧ ¬ c)
section LEAF
variable {l : Launch} {E : qEv} {n : Nat} {sh : qSh} {I L : qI} {R : qR}
theorem ct_X5_mayHave {o : Nat} {g d : Int} (hO : qTold E.2.2 n sh R o) (hg : 0 ≤ g ∧ g < 7) (hd : 0 ≤ d ∧ d < 6) (hw : in32 (I (o + 7 + g.toNat) d)) :
    Ct l E 0 mX5_mayHave [.ref o, .int (zI g), .int (zI d)] (n, sh, I, L, R) 0 0 (qP n sh I L R (qBo (I (o + 7 + g.toNat) d ≠ -1))) := by
  refine Ct.of (lo := [(0, _), (1, _), (2, _)]) ok_X5_mayHave (Nat.le_of_ble_eq_true rfl) rfl ?_
  refine wk_aload_n (i := 0) (q := 1) dX5_mayHave_0 rfl rfl rfl ?_
  refine wk_getR (fi := 5) (q := 4) dX5_mayHave_1 rfl fl_X5_29 rfl rfl hO.ob hO.r5 ?_
  refine wk_iload_n (i := 1) (q := 5) dX5_mayHave_4 rfl rfl rfl ?_
  refine wk_aald2 (q := 6) dX5_mayHave_5 rfl hO.s5 (by omega) (hO.w5 (by omega)) ?_
  refine wk_iload_n (i := 2) (q := 7) dX5_mayHave_6 rfl rfl rfl ?_
  refine wk_iald (q := 8) dX5_mayHave_7 rfl (hO.v5 (by omega)) (by omega) ?_
  refine wk_iconst (q := 9) dX5_mayHave_8 rfl ?_
  refine wk_icmp_eq (t := 16) (q := 12) dX5_mayHave_9 rfl rfl (by omega) (by omega) (fun hc9 => ?_) (fun hc9 => ?_)
  · refine wk_iconst (q := 17) dX5_mayHave_16 rfl ?_
    refine wk_zret dX5_mayHave_17 rfl (by omega) ⟨Nat.le_refl _, Nat.le_refl _⟩ rfl ?_
    refine ⟨_, _, _, _, rfl, rfl, rfl, rfl, rfl, ?_⟩
    unfold qBo
    omega
  · refine wk_iconst (q := 13) dX5_mayHave_12 rfl ?_
    refine wk_goto (t := 17) dX5_mayHave_13 rfl ?_
    refine wk_zret dX5_mayHave_17 rfl (by omega) ⟨Nat.le_refl _, Nat.le_refl _⟩ rfl ?_
    refine ⟨_, _, _, _, rfl, rfl, rfl, rfl, rfl, ?_⟩
    unfold qBo
    omega
theorem ct_X5_truly {o : Nat} {g d : Int} (hO : qTold E.2.2 n sh R o) (hg : 0 ≤ g ∧ g < 7) (hd : -9 ≤ d ∧ d < 6) :
    Ct l E 0 mX5_truly [.ref o, .int (zI g), .int (zI d)] (n, sh, I, L, R) 0 0 (qP n sh I L R (fun v => v = if d < 0 then 0 else I (o + 7 + g.toNat) d)) := by
  refine Ct.of (lo := [(0, _), (1, _), (2, _)]) ok_X5_truly (Nat.le_of_ble_eq_true rfl) rfl ?_
  refine wk_iload_n (i := 2) (q := 1) dX5_truly_0 rfl rfl rfl ?_
  refine wk_if_ge (t := 8) (q := 4) dX5_truly_1 rfl rfl (by omega) (fun hc1 => ?_) (fun hc1 => ?_)
  · refine wk_aload_n (i := 0) (q := 9) dX5_truly_8 rfl rfl rfl ?_
    refine wk_getR (fi := 5) (q := 12) dX5_truly_9 rfl fl_X5_29 rfl rfl hO.ob hO.r5 ?_
    refine wk_iload_n (i := 1) (q := 13) dX5_truly_12 rfl rfl rfl ?_
    refine wk_aald2 (q := 14) dX5_truly_13 rfl hO.s5 (by omega) (hO.w5 (by omega)) ?_
    refine wk_iload_n (i := 2) (q := 15) dX5_truly_14 rfl rfl rfl ?_
    refine wk_iald (q := 16) dX5_truly_15 rfl (hO.v5 (by omega)) (by omega) ?_
    refine wk_iret dX5_truly_16 rfl ⟨Nat.le_refl _, Nat.le_refl _⟩ rfl ?_
    refine ⟨_, _, _, _, rfl, rfl, rfl, rfl, rfl, ?_⟩
    split <;> first | rfl | omega
  · refine wk_iconst (q := 5) dX5_truly_4 rfl ?_
    refine wk_goto (t := 16) dX5_truly_5 rfl ?_
    refine wk_iret dX5_truly_16 rfl ⟨Nat.le_refl _, Nat.le_refl _⟩ rfl ?_
    refine ⟨_, _, _, _, rfl, rfl, rfl, rfl, rfl, ?_⟩
    split <;> first | rfl | omega
theorem ct_X6_isGuest {x o d u1 u2 u3 : Nat} {g : Int} (hX : qRA E.2.2 n sh R x o d u1 u2 u3) (hg : in32 g) (hn : in32 (I o 7)) :
    Ct l E 0 mX6_isGuest [.ref x, .int (zI g)] (n, sh, I, L, R) 0 0 (qP n sh I L R (qBo (0 ≤ g ∧ g < I o 7))) := by
  refine Ct.of (lo := [(0, _), (1, _)]) ok_X6_isGuest (Nat.le_of_ble_eq_true rfl) rfl ?_
  refine wk_iload_n (i := 1) (q := 1) dX6_isGuest_0 rfl rfl rfl ?_
  refine wk_if_lt (t := 19) (q := 4) dX6_isGuest_1 rfl rfl (by omega) (fun hc1 => ?_) (fun hc1 => ?_)
  · refine wk_iconst (q := 20) dX6_isGuest_19 rfl ?_
    refine wk_zret dX6_isGuest_20 rfl (by omega) ⟨Nat.le_refl _, Nat.le_refl _⟩ rfl ?_
    refine ⟨_, _, _, _, rfl, rfl, rfl, rfl, rfl, ?_⟩
    unfold qBo
    omega
  · refine wk_iload_n (i := 1) (q := 5) dX6_isGuest_4 rfl rfl rfl ?_
    refine wk_aload_n (i := 0) (q := 6) dX6_isGuest_5 rfl rfl rfl ?_
    refine wk_getR (fi := 1) (q := 9) dX6_isGuest_6 rfl fl_X6_20 rfl rfl hX.ob hX.r1 ?_
    refine wk_getI (fi := 7) (q := 12) dX6_isGuest_9 rfl fl_X6_88 rfl rfl hX.o1.ob ?_
    refine wk_icmp_ge (t := 19) (q := 15) dX6_isGuest_12 rfl rfl (by omega) (by omega) (fun hc12 => ?_) (fun hc12 => ?_)
    · refine wk_iconst (q := 20) dX6_isGuest_19 rfl ?_
      refine wk_zret dX6_isGuest_20 rfl (by omega) ⟨Nat.le_refl _, Nat.le_refl _⟩ rfl ?_
      refine ⟨_, _, _, _, rfl, rfl, rfl, rfl, rfl, ?_⟩
      unfold qBo
      omega
    · refine wk_iconst (q := 16) dX6_isGuest_15 rfl ?_
      refine wk_goto (t := 20) dX6_isGuest_16 rfl ?_
      refine wk_zret dX6_isGuest_20 rfl (by omega) ⟨Nat.le_refl _, Nat.le_refl _⟩ rfl ?_
      refine ⟨_, _, _, _, rfl, rfl, rfl, rfl, rfl, ?_⟩
      unfold qBo
      omega
end LEAF
