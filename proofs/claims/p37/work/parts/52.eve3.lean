/-! the class's evenings: dine, gets, glad, pays -/
section EVE3
variable {l : Launch} {E : qEv} {n : Nat} {sh : qSh} {I L : qI} {R : qR}
theorem ct_X6_tryEvening {x : Nat} {V : VV} {o d u1 u2 u3 : Nat} (h : CI0 E.2.2 n sh x I L R V o d u1 u2 u3) (hp : 0 < V.T.ng) :
    Ct l E 4 mX6_tryEvening [.ref x] (n, sh, I, L, R) 0 0 (qV n sh (fun I' L' R' => L' = L ∧ R' = up R (x + 68) 0 o ∧ CI0 E.2.2 n sh x I' L R' V o d u1 o u3 ∧ tryP I I' x V)) := by
  have hX := h.1
  obtain ⟨t1, t2, t3, -⟩ := h.full hp
  have hot := h.otx
  refine Ct.of (lo := [(0, _)]) ok_X6_tryEvening (Nat.le_of_ble_eq_true rfl) rfl ?_
  refine wk_aload_n (i := 0) (q := 1) dX6_tryEvening_0 rfl rfl rfl ?_
  refine wk_getR (fi := 4) (q := 4) dX6_tryEvening_1 rfl fl_X6_34 rfl rfl hX.ob hX.r4 ?_
  refine wk_aload_n (i := 0) (q := 5) dX6_tryEvening_4 rfl rfl rfl ?_
  refine wk_getR (fi := 3) (q := 8) dX6_tryEvening_5 rfl fl_X6_30 rfl rfl hX.ob hX.r3 ?_
  refine wk_cV1 (q := 11) dX6_tryEvening_8 rfl vl_X6_198 ⟨_, _, rfl⟩ hX.t4.1.ob (ct_tri h hp) (qRo_m ok_X4_become (by decide) (Nat.le_refl _) (Nat.le_refl _)) (Nat.le_of_ble_eq_true rfl) (fun I8 L8 R8 hv8 => ?_)
  obtain ⟨rfl, rfl, h2, f1, f2, f3, f4⟩ := hv8
  have hX := h2.1
  refine wk_aload_n (i := 0) (q := 12) dX6_tryEvening_11 rfl rfl rfl ?_
  refine wk_getR (fi := 4) (q := 15) dX6_tryEvening_12 rfl fl_X6_34 rfl rfl hX.ob hX.r4 ?_
  refine wk_cV0 (q := 18) dX6_tryEvening_15 rfl vl_X6_145 ⟨_, _, rfl⟩ hX.t4.1.ob (ct_X4_evening (la := V.la) hX.t4 (by omega) t1 t2.1 h2.2.2.2.2.2.2.2.1.1 f2 f4 t3.ok (f3.trans t2.2.2.2.1.symm)) (qRo_m ok_X4_evening (by decide) (Nat.le_refl _) (Nat.le_refl _)) (Nat.le_of_ble_eq_true rfl) (fun I15 L15 R15 hv15 => ?_)
  obtain ⟨rfl, rfl, g1, g2, g3, g4⟩ := hv15
  refine wk_ret dX6_tryEvening_18 rfl ⟨Nat.le_refl _, Nat.le_refl _⟩ rfl ?_
  refine ⟨_, _, _, rfl, rfl, rfl, rfl, h2.scr hX ⟨rfl, rfl, rfl, rfl, rfl, rfl, rfl⟩ (fun b i q1 q2 => g1 b i (by omega) (by omega) (by omega) (by omega)) ?_ ?_ ?_, fun b i q => ?_, g3, fun c g c0 c1 g0 g1' => ?_⟩
  · rw [g1 _ _ (by omega) (by omega) (by omega) (by omega)]
    exact h2.2.2.2.1
  · rw [g1 _ _ (by omega) (by omega) (by omega) (by omega)]
    exact h2.2.2.2.2.1
  · rw [g1 _ _ (by omega) (by omega) (by omega) (by omega)]
    exact h2.2.2.2.2.2.1
  · rw [g1 _ _ (by omega) (by omega) (by omega) (by omega)]
    exact f1 b i q
  · obtain ⟨s, s0, s1, rfl⟩ := t2.all g0 g1'
    exact g4 c s c0 c1 s0 s1
theorem oc_gets {x : Nat} {V : VV} {g c : Int} (h : CI E.2.2 n sh x I L R V) (hg : in32 g) (hc : in32 c) :
    Ct l E 5 mX6_gets [.ref x, .int (zI g), .int (zI c)] (n, sh, I, L, R) 0 0 (qZ n sh (cpZ E.2.2 n sh x I R (r_gets V g c) V)) := by
  obtain ⟨o, dr, u1', u2', u3', hh⟩ := id h
  obtain ⟨hX, hod, hok, h10, h11, h12, hS, hT, hB, hC⟩ := id hh
  have hng := hok.ng
  have e7 := hT.1.2.1
  refine Ct.of (lo := [(0, _), (1, _), (2, _)]) ok_X6_gets (Nat.le_of_ble_eq_true rfl) rfl ?_
  refine wk_aload_n (i := 0) (q := 1) dX6_gets_0 rfl rfl rfl ?_
  refine wk_iload_n (i := 1) (q := 2) dX6_gets_1 rfl rfl rfl ?_
  refine wk_cP1 (q := 5) dX6_gets_2 rfl vl_X6_102 ⟨_, _, rfl⟩ hX.ob (ct_X6_isGuest hX hg (by omega)) (qRo_m ok_X6_isGuest (by decide) (Nat.le_refl _) (Nat.le_refl _)) (Nat.le_of_ble_eq_true rfl) (fun v2 hv2 => ?_)
  rcases hv2 with ⟨rfl, hv2⟩ | ⟨rfl, hv2⟩
  · rw [e7] at hv2
    refine wk_if_eq (t := 23) (q := 8) dX6_gets_5 rfl rfl (by omega) (fun hq => absurd hq (by decide)) (fun _ => ?_)
    refine wk_iload_n (i := 2) (q := 9) dX6_gets_8 rfl rfl rfl ?_
    refine wk_if_lt (t := 23) (q := 12) dX6_gets_9 rfl rfl (by omega) (fun hc9 => ?_) (fun hc9 => ?_)
    · refine wk_iconst (q := 24) dX6_gets_23 rfl ?_
      refine wk_iret dX6_gets_24 rfl ⟨Nat.le_refl _, Nat.le_refl _⟩ rfl ?_
      refine cp_same h rfl ?_
      unfold r_gets
      first
        | rw [if_neg (fun q => hv2 q.1)]
        | rw [if_neg (by omega)]
    · refine wk_iload_n (i := 2) (q := 13) dX6_gets_12 rfl rfl rfl ?_
      refine wk_aload_n (i := 0) (q := 14) dX6_gets_13 rfl rfl rfl ?_
      refine wk_getR (fi := 3) (q := 17) dX6_gets_14 rfl fl_X6_30 rfl rfl hX.ob hX.r3 ?_
      refine wk_getI (fi := 7) (q := 20) dX6_gets_17 rfl fl_X6_142 rfl rfl hX.t3.1.ob ?_
      obtain ⟨t1, t2, t3, t4, t5, t6, t7⟩ := hh.full (by omega)
      have b1 := t2.1.2.2.2.2.1
      have b2 := t2.1.2.2.2.2.2.1
      rw [t5.2.2.1]
      refine wk_icmp_lt (t := 25) (q := 23) dX6_gets_20 rfl rfl (by omega) (by omega) (fun hc20 => ?_) (fun hc20 => ?_)
      · refine wk_aload_n (i := 0) (q := 26) dX6_gets_25 rfl rfl rfl ?_
        refine wk_cV0 (q := 29) dX6_gets_26 rfl vl_X6_154 ⟨_, _, rfl⟩ hX.ob (ct_X6_tryEvening hh (by omega)) (qRo_m ok_X6_tryEvening (by decide) (Nat.le_refl _) (Nat.le_refl _)) (Nat.le_of_ble_eq_true rfl) (fun I26 L26 R26 hv26 => ?_)
        obtain ⟨rfl, rfl, h2, f1, f2, f3⟩ := hv26
        have hX := h2.1
        refine wk_aload_n (i := 0) (q := 30) dX6_gets_29 rfl rfl rfl ?_
        refine wk_getR (fi := 4) (q := 33) dX6_gets_30 rfl fl_X6_34 rfl rfl hX.ob hX.r4 ?_
        refine wk_getR (fi := 10) (q := 36) dX6_gets_33 rfl fl_X6_157 rfl rfl hX.t4.1.ob hX.t4.1.r10 ?_
        refine wk_iload_n (i := 2) (q := 37) dX6_gets_36 rfl rfl rfl ?_
        refine wk_aald2 (q := 38) dX6_gets_37 rfl hX.t4.1.s10 (by omega) (hX.t4.1.w10 (by omega)) ?_
        refine wk_iload_n (i := 1) (q := 39) dX6_gets_38 rfl rfl rfl ?_
        refine wk_iald (q := 40) dX6_gets_39 rfl (hX.t4.1.v10 (by omega)) (by omega) ?_
        refine wk_iret dX6_gets_40 rfl ⟨Nat.le_refl _, Nat.le_refl _⟩ rfl ?_
        refine ⟨_, _, _, _, rfl, rfl, ?_, h2.ci, fun b i q => f1 b i (by omega), fun b i q => up_na _ _ _ _ (by omega)⟩
        unfold r_gets
        rw [if_pos (by omega)]
        exact f3 c g (by omega) (by omega) hv2.1 hv2.2
      · refine wk_iconst (q := 24) dX6_gets_23 rfl ?_
        refine wk_iret dX6_gets_24 rfl ⟨Nat.le_refl _, Nat.le_refl _⟩ rfl ?_
        refine cp_same h rfl ?_
        unfold r_gets
        first
          | rw [if_neg (fun q => hv2 q.1)]
          | rw [if_neg (by omega)]
  · rw [e7] at hv2
    refine wk_if_eq (t := 23) (q := 8) dX6_gets_5 rfl rfl (by omega) (fun _ => ?_) (fun hq => absurd hq (by decide))
    refine wk_iconst (q := 24) dX6_gets_23 rfl ?_
    refine wk_iret dX6_gets_24 rfl ⟨Nat.le_refl _, Nat.le_refl _⟩ rfl ?_
    refine cp_same h rfl ?_
    unfold r_gets
    first
      | rw [if_neg (fun q => hv2 q.1)]
      | rw [if_neg (by omega)]
theorem oc_glad {x : Nat} {V : VV} {g : Int} (h : CI E.2.2 n sh x I L R V) (hg : in32 g) :
    Ct l E 5 mX6_glad [.ref x, .int (zI g)] (n, sh, I, L, R) 0 0 (qZ n sh (cpZ E.2.2 n sh x I R (r_glad V g) V)) := by
  obtain ⟨o, dr, u1', u2', u3', hh⟩ := id h
  obtain ⟨hX, hod, hok, h10, h11, h12, hS, hT, hB, hC⟩ := id hh
  have hng := hok.ng
  have e7 := hT.1.2.1
  refine Ct.of (lo := [(0, _), (1, _)]) ok_X6_glad (Nat.le_of_ble_eq_true rfl) rfl ?_
  refine wk_aload_n (i := 0) (q := 1) dX6_glad_0 rfl rfl rfl ?_
  refine wk_iload_n (i := 1) (q := 2) dX6_glad_1 rfl rfl rfl ?_
  refine wk_cP1 (q := 5) dX6_glad_2 rfl vl_X6_102 ⟨_, _, rfl⟩ hX.ob (ct_X6_isGuest hX hg (by omega)) (qRo_m ok_X6_isGuest (by decide) (Nat.le_refl _) (Nat.le_refl _)) (Nat.le_of_ble_eq_true rfl) (fun v2 hv2 => ?_)
  rcases hv2 with ⟨rfl, hv2⟩ | ⟨rfl, hv2⟩
  · rw [e7] at hv2
    refine wk_if_ne (t := 10) (q := 8) dX6_glad_5 rfl rfl (by omega) (fun _ => ?_) (fun hq => absurd hq (by decide))
    refine wk_aload_n (i := 0) (q := 11) dX6_glad_10 rfl rfl rfl ?_
    refine wk_cV0 (q := 14) dX6_glad_11 rfl vl_X6_154 ⟨_, _, rfl⟩ hX.ob (ct_X6_tryEvening hh (by omega)) (qRo_m ok_X6_tryEvening (by decide) (Nat.le_refl _) (Nat.le_refl _)) (Nat.le_of_ble_eq_true rfl) (fun I11 L11 R11 hv11 => ?_)
    obtain ⟨rfl, rfl, h2, f1, f2, f3⟩ := hv11
    have hX := h2.1
    refine wk_aload_n (i := 0) (q := 15) dX6_glad_14 rfl rfl rfl ?_
    refine wk_getR (fi := 4) (q := 18) dX6_glad_15 rfl fl_X6_34 rfl rfl hX.ob hX.r4 ?_
    refine wk_getR (fi := 11) (q := 21) dX6_glad_18 rfl fl_X6_160 rfl rfl hX.t4.1.ob hX.t4.1.r11 ?_
    refine wk_iload_n (i := 1) (q := 22) dX6_glad_21 rfl rfl rfl ?_
    refine wk_iald (q := 23) dX6_glad_22 rfl hX.t4.1.s11 (by omega) ?_
    refine wk_iret dX6_glad_23 rfl ⟨Nat.le_refl _, Nat.le_refl _⟩ rfl ?_
    refine ⟨_, _, _, _, rfl, rfl, ?_, h2.ci, fun b i q => f1 b i (by omega), fun b i q => up_na _ _ _ _ (by omega)⟩
    unfold r_glad
    rw [if_pos (by omega)]
    exact (f2.2 g hv2.1 hv2.2).2.1
  · rw [e7] at hv2
    refine wk_if_ne (t := 10) (q := 8) dX6_glad_5 rfl rfl (by omega) (fun hq => absurd hq (by decide)) (fun _ => ?_)
    refine wk_iconst (q := 9) dX6_glad_8 rfl ?_
    refine wk_iret dX6_glad_9 rfl ⟨Nat.le_refl _, Nat.le_refl _⟩ rfl ?_
    refine cp_same h rfl ?_
    unfold r_glad
    rw [if_neg hv2]
theorem cp_sameJ {b x : Nat} {V V' : VV} {r : Int} (h : CI b n sh x I L R V) (hV : V' = V) {v : Int} (hv : v = r) : ∃ v' I' L' R', some (Value.long (zL v)) = some (.long (zL v')) ∧ (n, sh, I, L, R) = (n, sh, I', L', R') ∧ cpZ b n sh x I R r V' v' I' L' R' :=
  ⟨_, _, _, _, rfl, rfl, hv, by rw [hV]; exact h, frO.rf, frO.rf⟩
theorem oc_pays {x : Nat} {V : VV} {g a w : Int} (h : CI E.2.2 n sh x I L R V) (hg : in32 g) (ha : in32 a) (hw : in32 w) :
    Ct l E 5 mX6_pays [.ref x, .int (zI g), .int (zI a), .int (zI w)] (n, sh, I, L, R) 0 0 (qJ n sh (cpZ E.2.2 n sh x I R (r_pays V g a w) V)) := by
  obtain ⟨o, dr, u1', u2', u3', hh⟩ := id h
  obtain ⟨hX, hod, hok, h10, h11, h12, hS, hT, hB, hC⟩ := id hh
  have hng := hok.ng
  have e7 := hT.1.2.1
  refine Ct.of (lo := [(0, _), (1, _), (2, _), (3, _)]) ok_X6_pays (Nat.le_of_ble_eq_true rfl) rfl ?_
  refine wk_aload_n (i := 0) (q := 1) dX6_pays_0 rfl rfl rfl ?_
  refine wk_iload_n (i := 1) (q := 2) dX6_pays_1 rfl rfl rfl ?_
  refine wk_cP1 (q := 5) dX6_pays_2 rfl vl_X6_102 ⟨_, _, rfl⟩ hX.ob (ct_X6_isGuest hX hg (by omega)) (qRo_m ok_X6_isGuest (by decide) (Nat.le_refl _) (Nat.le_refl _)) (Nat.le_of_ble_eq_true rfl) (fun v2 hv2 => ?_)
  rcases hv2 with ⟨rfl, hv2⟩ | ⟨rfl, hv2⟩
  · rw [e7] at hv2
    refine wk_if_eq (t := 15) (q := 8) dX6_pays_5 rfl rfl (by omega) (fun hq => absurd hq (by decide)) (fun _ => ?_)
    refine wk_iload_n (i := 3) (q := 9) dX6_pays_8 rfl rfl rfl ?_
    refine wk_sP1 (q := 12) dX6_pays_9 rfl sl_X6_163 (ct_X6_isOneOfTwo hw) (qRo_m ok_X6_isOneOfTwo (by decide) (Nat.le_refl _) (Nat.le_refl _)) (Nat.le_of_ble_eq_true rfl) (fun v9 hv9 => ?_)
    rcases hv9 with ⟨rfl, hv9⟩ | ⟨rfl, hv9⟩
    · refine wk_if_ne (t := 19) (q := 15) dX6_pays_12 rfl rfl (by omega) (fun _ => ?_) (fun hq => absurd hq (by decide))
      refine wk_aload_n (i := 0) (q := 20) dX6_pays_19 rfl rfl rfl ?_
      refine wk_cV0 (q := 23) dX6_pays_20 rfl vl_X6_154 ⟨_, _, rfl⟩ hX.ob (ct_X6_tryEvening hh (by omega)) (qRo_m ok_X6_tryEvening (by decide) (Nat.le_refl _) (Nat.le_refl _)) (Nat.le_of_ble_eq_true rfl) (fun I20 L20 R20 hv20 => ?_)
      obtain ⟨rfl, rfl, h2, f1, f2, f3⟩ := hv20
      have hX := h2.1
      obtain ⟨t1, t2, t3⟩ := hok.tab (by omega)
      have e7' := h2.2.2.2.2.2.2.2.1.1.2.1
      have p1 := fun g' => evE_pa t1 t2.1 (la := V.la) g'
      have p2 := sumI_bd2 (N := V.T.ng) (fun g' _ _ => p1 g') V.T.ng.toNat (by omega)
      have p3 := p1 g
      have e3 : sumI (fun g' => I20 (x + 68 + 37) g') V.T.ng.toNat = sumI (evV V).pa V.T.ng.toNat := sumI_congr _ (fun i i0 i1 => (f2.2 i i0 (by omega)).2.2)
      have e4 : I20 (x + 68 + 37) g = (evV V).pa g := (f2.2 g hv2.1 hv2.2).2.2
      refine wk_iload_n (i := 2) (q := 24) dX6_pays_23 rfl rfl rfl ?_
      refine wk_if_eq (t := 48) (q := 27) dX6_pays_24 rfl rfl (by omega) (fun hc24 => ?_) (fun hc24 => ?_)
      · refine wk_aload_n (i := 0) (q := 49) dX6_pays_48 rfl rfl rfl ?_
        refine wk_getR (fi := 4) (q := 52) dX6_pays_49 rfl fl_X6_34 rfl rfl hX.ob hX.r4 ?_
        refine wk_getR (fi := 12) (q := 55) dX6_pays_52 rfl fl_X6_175 rfl rfl hX.t4.1.ob hX.t4.1.r12 ?_
        refine wk_iload_n (i := 1) (q := 56) dX6_pays_55 rfl rfl rfl ?_
        refine wk_iald (q := 57) dX6_pays_56 rfl hX.t4.1.s12 (by omega) ?_
        refine wk_iconst (q := 58) dX6_pays_57 rfl ?_
        refine wk_iload_n (i := 3) (q := 59) dX6_pays_58 rfl rfl rfl ?_
        rw [e4]
        refine wk_sJ3 (q := 62) dX6_pays_59 rfl sl_X6_171 (ct_X6_share (by unfold evV; omega) (by omega) hv9) (qRo_m ok_X6_share (by decide) (Nat.le_refl _) (Nat.le_refl _)) (Nat.le_of_ble_eq_true rfl) (fun v59 I59 L59 R59 hv59 => ?_)
        obtain ⟨rfl, rfl, rfl, rfl⟩ := hv59
        refine wk_lret dX6_pays_62 rfl ⟨Nat.le_refl _, Nat.le_refl _⟩ rfl ?_
        refine ⟨_, _, _, _, rfl, rfl, ?_, h2.ci, fun b i q => f1 b i (by omega), fun b i q => up_na _ _ _ _ (by omega)⟩
        unfold r_pays
        rw [if_pos ⟨hv2, hv9⟩]
        first
          | rw [if_pos hc24]
          | (rw [if_neg (by omega)])
      · refine wk_aload_n (i := 0) (q := 28) dX6_pays_27 rfl rfl rfl ?_
        refine wk_getR (fi := 4) (q := 31) dX6_pays_28 rfl fl_X6_34 rfl rfl hX.ob hX.r4 ?_
        refine wk_cP0 (q := 34) dX6_pays_31 rfl vl_X6_168 ⟨_, _, rfl⟩ hX.t4.1.ob (ct_X4_paidInAll hX.t4 e7' (by omega)) (qRo_m ok_X4_paidInAll (by decide) (Nat.le_refl _) (Nat.le_refl _)) (Nat.le_of_ble_eq_true rfl) (fun v31 hv31 => ?_)
        rw [e3] at hv31
        subst hv31
        refine wk_aload_n (i := 0) (q := 35) dX6_pays_34 rfl rfl rfl ?_
        refine wk_getR (fi := 1) (q := 38) dX6_pays_35 rfl fl_X6_20 rfl rfl hX.ob hX.r1 ?_
        refine wk_getI (fi := 7) (q := 41) dX6_pays_38 rfl fl_X6_88 rfl rfl hX.o1.ob ?_
        refine wk_iload_n (i := 3) (q := 42) dX6_pays_41 rfl rfl rfl ?_
        rw [e7']
        refine wk_sJ3 (q := 45) dX6_pays_42 rfl sl_X6_171 (ct_X6_share (by unfold evV; omega) (by omega) hv9) (qRo_m ok_X6_share (by decide) (Nat.le_refl _) (Nat.le_refl _)) (Nat.le_of_ble_eq_true rfl) (fun v42 I42 L42 R42 hv42 => ?_)
        obtain ⟨rfl, rfl, rfl, rfl⟩ := hv42
        refine wk_goto (t := 62) dX6_pays_45 rfl ?_
        refine wk_lret dX6_pays_62 rfl ⟨Nat.le_refl _, Nat.le_refl _⟩ rfl ?_
        refine ⟨_, _, _, _, rfl, rfl, ?_, h2.ci, fun b i q => f1 b i (by omega), fun b i q => up_na _ _ _ _ (by omega)⟩
        unfold r_pays
        rw [if_pos ⟨hv2, hv9⟩]
        first
          | rw [if_pos hc24]
          | (rw [if_neg (by omega)])
    · refine wk_if_ne (t := 19) (q := 15) dX6_pays_12 rfl rfl (by omega) (fun hq => absurd hq (by decide)) (fun _ => ?_)
      refine wk_ldc2 (z := (-9223372036854775808)) (q := 18) dX6_pays_15 rfl (v := (-9223372036854775808)) (qtb_in 455 (by decide +kernel) (by decide +kernel)) rfl ?_
      refine wk_lret dX6_pays_18 rfl ⟨Nat.le_refl _, Nat.le_refl _⟩ rfl ?_
      refine cp_sameJ h rfl ?_
      unfold r_pays
      first
        | rw [if_neg (fun q => hv2 q.1)]
        | rw [if_neg (fun q => hv9 q.2)]
  · rw [e7] at hv2
    refine wk_if_eq (t := 15) (q := 8) dX6_pays_5 rfl rfl (by omega) (fun _ => ?_) (fun hq => absurd hq (by decide))
    refine wk_ldc2 (z := (-9223372036854775808)) (q := 18) dX6_pays_15 rfl (v := (-9223372036854775808)) (qtb_in 455 (by decide +kernel) (by decide +kernel)) rfl ?_
    refine wk_lret dX6_pays_18 rfl ⟨Nat.le_refl _, Nat.le_refl _⟩ rfl ?_
    refine cp_sameJ h rfl ?_
    unfold r_pays
    first
      | rw [if_neg (fun q => hv2 q.1)]
      | rw [if_neg (fun q => hv9 q.2)]
theorem oc_dine {x : Nat} {V : VV} (h : CI E.2.2 n sh x I L R V) :
    Ct l E 4 mX6_dine [.ref x] (n, sh, I, L, R) 0 0 (qZ n sh (cpZ E.2.2 n sh x I R (r_dine V) (s_dine V))) := by
  obtain ⟨o, dr, u1', u2', u3', hh⟩ := id h
  obtain ⟨hX, hod, hok, h10, h11, h12, hS, hT, hB, hC⟩ := id hh
  have hng := hok.ng
  have hot := hh.otx
  have e7 := hT.1.2.1
  refine Ct.of (lo := [(0, _)]) ok_X6_dine (Nat.le_of_ble_eq_true rfl) rfl ?_
  refine wk_aload_n (i := 0) (q := 1) dX6_dine_0 rfl rfl rfl ?_
  refine wk_cP0 (q := 4) dX6_dine_1 rfl vl_X6_138 ⟨_, _, rfl⟩ hX.ob (ct_X6_isTable hX (by omega)) (qRo_m ok_X6_isTable (by decide) (Nat.le_refl _) (Nat.le_refl _)) (Nat.le_of_ble_eq_true rfl) (fun v1 hv1 => ?_)
  rcases hv1 with ⟨rfl, hv1⟩ | ⟨rfl, hv1⟩
  · rw [e7] at hv1
    refine wk_if_ne (t := 10) (q := 7) dX6_dine_4 rfl rfl (by omega) (fun _ => ?_) (fun hq => absurd hq (by decide))
    refine wk_aload_n (i := 0) (q := 11) dX6_dine_10 rfl rfl rfl ?_
    refine wk_getR (fi := 3) (q := 14) dX6_dine_11 rfl fl_X6_30 rfl rfl hX.ob hX.r3 ?_
    obtain ⟨t1, t2, t3, t4, t5, t6, t7⟩ := hh.full (by omega)
    have hnow : qTab E.2.2 n sh R (x + 30) o := by rw [← t4]; exact hX.t3
    refine wk_cV0 (q := 17) dX6_dine_14 rfl vl_X6_145 ⟨_, _, rfl⟩ hX.t3.1.ob (ct_X4_evening (la := V.la) hnow (by omega) t1 t2.1 hT.1 t5 t7 t3.ok (t6.trans t2.2.2.2.1.symm)) (qRo_m ok_X4_evening (by decide) (Nat.le_refl _) (Nat.le_refl _)) (Nat.le_of_ble_eq_true rfl) (fun I14 L14 R14 hv14 => ?_)
    obtain ⟨rfl, rfl, g1, g2, g3, g4⟩ := hv14
    refine wk_aload_n (i := 0) (q := 18) dX6_dine_17 rfl rfl rfl ?_
    refine wk_dup (q := 19) dX6_dine_18 rfl rfl ?_
    refine wk_getI (fi := 10) (q := 22) dX6_dine_19 rfl fl_X6_81 rfl rfl hX.ob ?_
    refine wk_iconst (q := 23) dX6_dine_22 rfl ?_
    refine wk_iadd (q := 24) dX6_dine_23 rfl ?_
    refine wk_putI (fi := 10) (q := 27) dX6_dine_24 rfl fl_X6_81 fw_6_10 rfl rfl hX.ob ?_
    refine wk_aload_n (i := 0) (q := 28) dX6_dine_27 rfl rfl rfl ?_
    refine wk_getR (fi := 3) (q := 31) dX6_dine_28 rfl fl_X6_30 rfl rfl hX.ob hX.r3 ?_
    have e10 : I14 x 10 = V.ni := by rw [g1 _ _ (by omega) (by omega) (by omega) (by omega)]; exact h10
    rw [e10]
    have e7' : up I14 x 10 (V.ni + 1) o 7 = V.T.ng := by rw [up_off (by omega), g1 _ _ (by omega) (by omega) (by omega) (by omega)]; exact e7
    refine wk_cP0 (q := 34) dX6_dine_31 rfl vl_X6_148 ⟨_, _, rfl⟩ hX.t3.1.ob (ct_X4_gladInAll hnow e7' (by omega)) (qRo_m ok_X4_gladInAll (by decide) (Nat.le_refl _) (Nat.le_refl _)) (Nat.le_of_ble_eq_true rfl) (fun v31 hv31 => ?_)
    rw [sumI_congr (g := (evV V).gl) _ (fun i i0 i1 => by rw [up_na _ _ _ _ (by omega)]; exact (g3.2 i i0 (by omega)).2.1)] at hv31
    refine wk_iret dX6_dine_34 rfl ⟨Nat.le_refl _, Nat.le_refl _⟩ rfl ?_
    have hs : s_dine V = (V.setNi (V.ni + 1)).setLa (evV V).la := by
      unfold s_dine
      rw [if_pos (by omega)]
    refine ⟨_, _, _, _, rfl, rfl, ?_, CI0.ci (o := o) (d := dr) (u1 := u1') (u2 := u2') (u3 := u3') ?_, fun c i q => by rw [up_na _ _ _ _ (by omega), g1 _ _ (by omega) (by omega) (by omega) (by omega)], frO.rf⟩
    · unfold r_dine
      rw [if_pos (by omega)]
      exact hv31
    · rw [hs]
      have fr : ∀ c i, ¬ (c = x ∧ i = 10) → ¬ (x + 30 ≤ c ∧ c < x + 68) → up I14 x 10 (V.ni + 1) c i = I c i := fun c i q1 q2 => by
        rw [up_off (by omega), g1 _ _ (by omega) (by omega) (by omega) (by omega)]
      refine hh.gen hX rfl ⟨hok.1, Or.inr ⟨t1, t2, evE_la2 t1 t3⟩⟩ (fun c i q1 q2 => fr c i (by omega) (by omega)) (up_eq _ _ _ _) (by rw [fr _ _ (by omega) (by omega)]; exact h11) (by rw [fr _ _ (by omega) (by omega)]; exact h12) (hS.cg ⟨rfl, rfl, rfl, rfl⟩ (fun c i q1 q2 => fr c i (by omega) (by omega))) (fun q => by omega) (fun q => ⟨?_, ?_, fun g g0 g1' => ?_⟩) ?_ ?_
      · exact (t5.fv g1 t1).cg hng.2.1 (fun c i q => up_na _ _ _ _ (by omega))
      · rw [up_na _ _ _ _ (by omega)]
        exact g2
      · rw [up_na _ _ _ _ (by omega)]
        exact (g3.2 g g0 g1').1
      · show caB _ _ _ V.T V.C
        unfold caB at hB ⊢
        rw [fr _ _ (by omega) (by omega)]
        exact hB
      · show caS _ _ V.T V.C
        unfold caS at hC ⊢
        rw [fr _ _ (by omega) (by omega)]
        rcases hC with z | ⟨z1, z2, z3⟩
        · exact Or.inl z
        · exact Or.inr ⟨z1, z2, fun aim a0 a1 => ⟨by rw [fr _ _ (by omega) (by omega)]; exact (z3 aim a0 a1).1, fun s s0 s1 => by rw [fr _ _ (by omega) (by omega)]; exact (z3 aim a0 a1).2 s s0 s1⟩⟩
  · rw [e7] at hv1
    refine wk_if_ne (t := 10) (q := 7) dX6_dine_4 rfl rfl (by omega) (fun hq => absurd hq (by decide)) (fun _ => ?_)
    refine wk_bipush (q := 9) dX6_dine_7 rfl (by decide +kernel) ?_
    refine wk_iret dX6_dine_9 rfl ⟨Nat.le_refl _, Nat.le_refl _⟩ rfl ?_
    refine cp_same h ?_ ?_
    · unfold s_dine
      rw [if_neg (by omega)]
    · unfold r_dine
      rw [if_neg (by omega)]
end EVE3
