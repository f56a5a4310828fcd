/-! the class's leaves -/
theorem mul_bd {a r : Int} (ha : 0 ≤ a ∧ a ≤ 200000) (hr : 0 ≤ r ∧ r ≤ 200) : 0 ≤ a * r ∧ a * r ≤ 40000000 := by
  have h1 : a * r ≤ 200000 * r := Int.mul_le_mul_of_nonneg_right ha.2 hr.1
  have h2 : 0 ≤ a * r := Int.mul_nonneg ha.1 hr.1
  omega
section LEAVES2
variable {l : Launch} {E : qEv} {n : Nat} {sh : qSh} {I L : qI} {R : qR}
theorem ct_X6_isGladderOtherwise {x o d w1 w2 w3 : Nat} {g A B r s : Int} (hX : qRA E.2.2 n sh R x o d w1 w2 w3) (hg : 0 ≤ g ∧ g < 7) (hA : I (x + 144 + 1) g = A) (hB : I (x + 147 + 1) g = B) (hr : I (x + 144) 3 = r) (hs : I (x + 147) 3 = s) (bA : 0 ≤ A ∧ A ≤ 200000) (bB : 0 ≤ B ∧ B ≤ 200000) (br : 0 ≤ r ∧ r ≤ 200) (bs : 0 ≤ s ∧ s ≤ 200) :
    Ct l E 0 mX6_isGladderOtherwise [.ref x, .int (zI g)] (n, sh, I, L, R) 0 0 (qP n sh I L R (qBo (A * s < B * r))) := by
  have m1 := mul_bd bA bs
  have m2 := mul_bd bB br
  refine Ct.of (lo := [(0, _), (1, _)]) ok_X6_isGladderOtherwise (Nat.le_of_ble_eq_true rfl) rfl ?_
  refine wk_aload_n (i := 0) (q := 1) dX6_isGladderOtherwise_0 rfl rfl rfl ?_
  refine wk_getR (fi := 7) (q := 4) dX6_isGladderOtherwise_1 rfl fl_X6_47 rfl rfl hX.ob hX.r7 ?_
  refine wk_getR (fi := 0) (q := 7) dX6_isGladderOtherwise_4 rfl fl_X6_217 rfl rfl hX.o7.ob hX.o7.r0 ?_
  refine wk_iload_n (i := 1) (q := 8) dX6_isGladderOtherwise_7 rfl rfl rfl ?_
  refine wk_iald (q := 9) dX6_isGladderOtherwise_8 rfl hX.o7.s0 (by omega) ?_
  rw [hB]
  refine wk_i2l (q := 10) dX6_isGladderOtherwise_9 rfl (by omega) ?_
  refine wk_aload_n (i := 0) (q := 11) dX6_isGladderOtherwise_10 rfl rfl rfl ?_
  refine wk_getR (fi := 6) (q := 14) dX6_isGladderOtherwise_11 rfl fl_X6_43 rfl rfl hX.ob hX.r6 ?_
  refine wk_getI (fi := 3) (q := 17) dX6_isGladderOtherwise_14 rfl fl_X6_214 rfl rfl hX.o6.ob ?_
  rw [hr]
  refine wk_i2l (q := 18) dX6_isGladderOtherwise_17 rfl (by omega) ?_
  refine wk_lmul (q := 19) dX6_isGladderOtherwise_18 rfl ?_
  refine wk_aload_n (i := 0) (q := 20) dX6_isGladderOtherwise_19 rfl rfl rfl ?_
  refine wk_getR (fi := 6) (q := 23) dX6_isGladderOtherwise_20 rfl fl_X6_43 rfl rfl hX.ob hX.r6 ?_
  refine wk_getR (fi := 0) (q := 26) dX6_isGladderOtherwise_23 rfl fl_X6_217 rfl rfl hX.o6.ob hX.o6.r0 ?_
  refine wk_iload_n (i := 1) (q := 27) dX6_isGladderOtherwise_26 rfl rfl rfl ?_
  refine wk_iald (q := 28) dX6_isGladderOtherwise_27 rfl hX.o6.s0 (by omega) ?_
  rw [hA]
  refine wk_i2l (q := 29) dX6_isGladderOtherwise_28 rfl (by omega) ?_
  refine wk_aload_n (i := 0) (q := 30) dX6_isGladderOtherwise_29 rfl rfl rfl ?_
  refine wk_getR (fi := 7) (q := 33) dX6_isGladderOtherwise_30 rfl fl_X6_47 rfl rfl hX.ob hX.r7 ?_
  refine wk_getI (fi := 3) (q := 36) dX6_isGladderOtherwise_33 rfl fl_X6_214 rfl rfl hX.o7.ob ?_
  rw [hs]
  refine wk_i2l (q := 37) dX6_isGladderOtherwise_36 rfl (by omega) ?_
  refine wk_lmul (q := 38) dX6_isGladderOtherwise_37 rfl ?_
  refine wk_lcmp (q := 39) dX6_isGladderOtherwise_38 rfl (by omega) (by omega) (fun hc38 => ?_) (fun hc38 => ?_) (fun hc38 => ?_)
  · refine wk_if_le (t := 46) (q := 42) dX6_isGladderOtherwise_39 rfl rfl (by omega) (fun hq => absurd hq (by decide)) (fun _ => ?_)
    refine wk_iconst (q := 43) dX6_isGladderOtherwise_42 rfl ?_
    refine wk_goto (t := 47) dX6_isGladderOtherwise_43 rfl ?_
    refine wk_zret dX6_isGladderOtherwise_47 rfl (by omega) ⟨Nat.le_refl _, Nat.le_refl _⟩ rfl ?_
    refine ⟨_, _, _, _, rfl, rfl, rfl, rfl, rfl, ?_⟩
    unfold qBo
    omega
  · refine wk_if_le (t := 46) (q := 42) dX6_isGladderOtherwise_39 rfl rfl (by omega) (fun _ => ?_) (fun hq => absurd hq (by decide))
    refine wk_iconst (q := 47) dX6_isGladderOtherwise_46 rfl ?_
    refine wk_zret dX6_isGladderOtherwise_47 rfl (by omega) ⟨Nat.le_refl _, Nat.le_refl _⟩ rfl ?_
    refine ⟨_, _, _, _, rfl, rfl, rfl, rfl, rfl, ?_⟩
    unfold qBo
    omega
  · refine wk_if_le (t := 46) (q := 42) dX6_isGladderOtherwise_39 rfl rfl (by omega) (fun _ => ?_) (fun hq => absurd hq (by decide))
    refine wk_iconst (q := 47) dX6_isGladderOtherwise_46 rfl ?_
    refine wk_zret dX6_isGladderOtherwise_47 rfl (by omega) ⟨Nat.le_refl _, Nat.le_refl _⟩ rfl ?_
    refine ⟨_, _, _, _, rfl, rfl, rfl, rfl, rfl, ?_⟩
    unfold qBo
    omega
end LEAVES2
