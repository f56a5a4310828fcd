/-! the class's calls (2): swap, step, courses, forget, many, trace, fault -/
theorem CC.ok_st {C : CC} {T : TT} (h : C.ok T) {v : Int} (hv : 1 ≤ v ∧ v < T.ng) : (C.setSt v).ok T := by
  obtain ⟨z1, z2, z3, z4, z5⟩ := h
  exact ⟨z1, z2, hv.1, hv.2, z5⟩
theorem CC.ok_co {C : CC} {T : TT} (h : C.ok T) {v : Int} (hv : 1 ≤ v ∧ v ≤ 8) : (C.setCo v).ok T := by
  obtain ⟨z1, z2, z3, z4, z5, z6, z7⟩ := h
  exact ⟨z1, z2, z3, z4, hv.1, hv.2, z7⟩
theorem sw_eq {od : Int → Int} {a b g h s : Int} (ha : od a = g) (hb : od b = h) : u1 (u1 od a h) b g s = if s = b then od a else if s = a then od b else od s := by
  unfold u1
  rw [ha, hb]
theorem CC.ok_sw {C : CC} {T : TT} (h : C.now T) {a b g k : Int} (ha : 0 ≤ a ∧ a < T.ng) (hb : 0 ≤ b ∧ b < T.ng) (ea : C.od a = g) (eb : C.od b = k) : (C.setOd (u1 (u1 C.od a k) b g)).now T := by
  obtain ⟨⟨z1, z2, z3, z4, z5, z6, z7, z8, z9, z10, z11⟩, w1, w2, w3, w4⟩ := h
  have hse : ∀ s s', 0 ≤ s → s < C.se → 0 ≤ s' → s' < C.se → u1 (u1 C.od a k) b g s = u1 (u1 C.od a k) b g s' → s = s' := by
    intro s s' p0 p1 p2 p3 q
    rw [sw_eq ea eb, sw_eq ea eb] at q
    have i1 := fun x y (q0 : 0 ≤ x) (q1 : x < C.se) (q2 : 0 ≤ y) (q3 : y < C.se) => z10 x y q0 q1 q2 q3
    split at q <;> split at q <;> (try split at q) <;> (try split at q)
    all_goals first
      | omega
      | (have := i1 _ _ (by omega) (by omega) (by omega) (by omega) q; omega)
  refine ⟨⟨z1, z2, z3, z4, z5, z6, z7, z8, fun s s0 s1 => ?_, hse, z11⟩, w1, w2, w3, fun x x0 x1 => ?_⟩
  · show 0 ≤ u1 (u1 C.od a k) b g s ∧ u1 (u1 C.od a k) b g s < T.ng
    have s1' : s < C.se := s1
    rw [sw_eq ea eb]
    split
    · exact z9 a ha.1 (by omega)
    · split
      · exact z9 b hb.1 (by omega)
      · exact z9 s s0 s1'
  · obtain ⟨s, s0, s1, s2⟩ := w4 x x0 x1
    show ∃ s, 0 ≤ s ∧ s < T.ng ∧ u1 (u1 C.od a k) b g s = x
    by_cases q1 : s = a
    · exact ⟨b, hb.1, hb.2, by rw [sw_eq ea eb, if_pos rfl, ← q1]; exact s2⟩
    · by_cases q2 : s = b
      · refine ⟨a, ha.1, ha.2, ?_⟩
        rw [sw_eq ea eb]
        split
        · rename_i q3
          omega
        · rw [if_pos rfl, ← q2]
          exact s2
      · exact ⟨s, s0, s1, by rw [sw_eq ea eb, if_neg q2, if_neg q1]; exact s2⟩
theorem un_ne {I : qI} {x b : Nat} {i : Int} (h1 : ¬ (b = x + 150 ∧ i = 0)) (h2 : ¬ (b = x + 154 ∧ i = 0)) : up (up I (x + 150) 0 0) (x + 154) 0 0 b i = I b i := by
  unfold up
  rw [if_neg h2, if_neg h1]
theorem un_b {I : qI} {x : Nat} : up (up I (x + 150) 0 0) (x + 154) 0 0 (x + 150) 0 = 0 := by
  rw [up_na _ _ _ _ (by omega), up_eq]
theorem up_off {I : qI} {a b : Nat} {i j v : Int} (h : ¬ (b = a ∧ j = i)) : up I a i v b j = I b j := if_neg h
section CLS3
variable {l : Launch} {E : qEv} {n : Nat} {sh : qSh} {I L : qI} {R : qR}
theorem cp_same {b x : Nat} {V V' : VV} {r : Int} (h : CI b n sh x I L R V) (hV : V' = V) {v : Int} (hv : v = r) : ∃ v' I' L' R', some (Value.int (zI v)) = some (.int (zI v')) ∧ (n, sh, I, L, R) = (n, sh, I', L', R') ∧ cpZ b n sh x I R r V' v' I' L' R' :=
  ⟨_, _, _, _, rfl, rfl, hv, by rw [hV]; exact h, frO.rf, frO.rf⟩
theorem oc_swap {x : Nat} {V : VV} {g k : Int} (h : CI E.2.2 n sh x I L R V) (hg : in32 g) (hk : in32 k) :
    Ct l E 1 mX6_swap [.ref x, .int (zI g), .int (zI k)] (n, sh, I, L, R) 0 0 (qZ n sh (cpZ E.2.2 n sh x I R (r_swap V g k) (s_swap V g k))) := by
  obtain ⟨o, dr, u1', u2', u3', hh⟩ := id h
  obtain ⟨hX, hod, hok, h10, h11, h12, hS, hT, hB, hC⟩ := id hh
  have hng := hok.ng
  have e7 := hT.1.2.1
  refine Ct.of (lo := [(0, _), (1, _), (2, _)]) ok_X6_swap (Nat.le_of_ble_eq_true rfl) rfl ?_
  refine wk_aload_n (i := 0) (q := 1) dX6_swap_0 rfl rfl rfl ?_
  refine wk_iload_n (i := 1) (q := 2) dX6_swap_1 rfl rfl rfl ?_
  refine wk_cP1 (q := 5) dX6_swap_2 rfl vl_X6_102 ⟨_, _, rfl⟩ hX.ob (ct_X6_isGuest hX hg (by omega)) (qRo_m ok_X6_isGuest (by decide) (Nat.le_refl _) (Nat.le_refl _)) (Nat.le_of_ble_eq_true rfl) (fun v2 hv2 => ?_)
  rcases hv2 with ⟨rfl, hv2⟩ | ⟨rfl, hv2⟩
  · rw [e7] at hv2
    refine wk_if_eq (t := 16) (q := 8) dX6_swap_5 rfl rfl (by omega) (fun hq => absurd hq (by decide)) (fun _ => ?_)
    refine wk_aload_n (i := 0) (q := 9) dX6_swap_8 rfl rfl rfl ?_
    refine wk_iload_n (i := 2) (q := 10) dX6_swap_9 rfl rfl rfl ?_
    refine wk_cP1 (q := 13) dX6_swap_10 rfl vl_X6_102 ⟨_, _, rfl⟩ hX.ob (ct_X6_isGuest hX hk (by omega)) (qRo_m ok_X6_isGuest (by decide) (Nat.le_refl _) (Nat.le_refl _)) (Nat.le_of_ble_eq_true rfl) (fun v10 hv10 => ?_)
    rcases hv10 with ⟨rfl, hv10⟩ | ⟨rfl, hv10⟩
    · rw [e7] at hv10
      refine wk_if_ne (t := 18) (q := 16) dX6_swap_13 rfl rfl (by omega) (fun _ => ?_) (fun hq => absurd hq (by decide))
      refine wk_aload_n (i := 0) (q := 19) dX6_swap_18 rfl rfl rfl ?_
      refine wk_getR (fi := 3) (q := 22) dX6_swap_19 rfl fl_X6_30 rfl rfl hX.ob hX.r3 ?_
      refine wk_iload_n (i := 1) (q := 23) dX6_swap_22 rfl rfl rfl ?_
      obtain ⟨a1, a2, a3, a4⟩ := hh.seat hv2.1 hv2.2
      obtain ⟨b1, b2, b3, b4⟩ := hh.seat hv10.1 hv10.2
      refine wk_cP1 (q := 26) dX6_swap_23 rfl vl_X6_114 ⟨_, _, rfl⟩ hX.t3.1.ob (ct_X4_seatOf hX.t3 a1 (by omega) hg a2 a3 a4) (qRo_m ok_X4_seatOf (by decide) (Nat.le_refl _) (Nat.le_refl _)) (Nat.le_of_ble_eq_true rfl) (fun v23 hv23 => ?_)
      subst hv23
      refine wk_istore_n (i := 3) (lo' := [(0, _), (1, _), (2, _), (3, _)]) (q := 27) dX6_swap_26 rfl rfl (by decide) rfl ?_
      refine wk_aload_n (i := 0) (q := 28) dX6_swap_27 rfl rfl rfl ?_
      refine wk_getR (fi := 3) (q := 31) dX6_swap_28 rfl fl_X6_30 rfl rfl hX.ob hX.r3 ?_
      refine wk_iload_n (i := 2) (q := 32) dX6_swap_31 rfl rfl rfl ?_
      refine wk_cP1 (q := 35) dX6_swap_32 rfl vl_X6_114 ⟨_, _, rfl⟩ hX.t3.1.ob (ct_X4_seatOf hX.t3 b1 (by omega) hk b2 b3 b4) (qRo_m ok_X4_seatOf (by decide) (Nat.le_refl _) (Nat.le_refl _)) (Nat.le_of_ble_eq_true rfl) (fun v32 hv32 => ?_)
      subst hv32
      refine wk_istore (i := 4) (lo' := [(0, _), (1, _), (2, _), (3, _), (4, _)]) (q := 37) dX6_swap_35 rfl (by decide) rfl ?_
      refine wk_aload_n (i := 0) (q := 38) dX6_swap_37 rfl rfl rfl ?_
      refine wk_getR (fi := 3) (q := 41) dX6_swap_38 rfl fl_X6_30 rfl rfl hX.ob hX.r3 ?_
      refine wk_getR (fi := 1) (q := 44) dX6_swap_41 rfl fl_X6_132 rfl rfl hX.t3.1.ob hX.t3.1.r1 ?_
      refine wk_iload_n (i := 3) (q := 45) dX6_swap_44 rfl rfl rfl ?_
      refine wk_iload_n (i := 2) (q := 46) dX6_swap_45 rfl rfl rfl ?_
      refine wk_iast (q := 47) dX6_swap_46 rfl hX.t3.1.s1 (by omega) ?_
      refine wk_aload_n (i := 0) (q := 48) dX6_swap_47 rfl rfl rfl ?_
      refine wk_getR (fi := 3) (q := 51) dX6_swap_48 rfl fl_X6_30 rfl rfl hX.ob hX.r3 ?_
      refine wk_getR (fi := 1) (q := 54) dX6_swap_51 rfl fl_X6_132 rfl rfl hX.t3.1.ob hX.t3.1.r1 ?_
      refine wk_iload (i := 4) (q := 56) dX6_swap_54 rfl rfl ?_
      refine wk_iload_n (i := 1) (q := 57) dX6_swap_56 rfl rfl rfl ?_
      refine wk_iast (q := 58) dX6_swap_57 rfl hX.t3.1.s1 (by omega) ?_
      refine wk_aload_n (i := 0) (q := 59) dX6_swap_58 rfl rfl rfl ?_
      refine wk_cV0 (q := 62) dX6_swap_59 rfl vl_X6_85 ⟨_, _, rfl⟩ hX.ob (ct_X6_unsettle hX) (qRo_m ok_X6_unsettle (by decide) (Nat.le_refl _) (Nat.le_refl _)) (Nat.le_of_ble_eq_true rfl) (fun I59 L59 R59 hv59 => ?_)
      obtain ⟨rfl, rfl, rfl⟩ := hv59
      refine wk_iconst (q := 63) dX6_swap_62 rfl ?_
      refine wk_iret dX6_swap_63 rfl ⟨Nat.le_refl _, Nat.le_refl _⟩ rfl ?_
      obtain ⟨t1, t2, t3, t4, t5, t6, t7⟩ := hh.full (by omega)
      have hs : s_swap V g k = V.setC (V.C.setOd (u1 (u1 V.C.od (seatI V g) k) (seatI V k) g)) := by
        unfold s_swap
        rw [if_pos ⟨hv2, hv10⟩]
      have hr : (1 : Int) = r_swap V g k := by
        unfold r_swap
        rw [if_pos ⟨hv2, hv10⟩]
      have hse := t2.2.1
      have ea : V.C.od (seatI V g) = g := ((seatI_ok hok hv2.1 hv2.2).2.2 _ a3.1 a3.2).mpr rfl
      have eb : V.C.od (seatI V k) = k := ((seatI_ok hok hv10.1 hv10.2).2.2 _ b3.1 b3.2).mpr rfl
      have hok2 := CC.ok_sw t2 a3 b3 ea eb
      refine ⟨_, _, _, _, rfl, rfl, hr, CI0.ci (o := o) (d := dr) (u1 := u1') (u2 := u2') (u3 := u3') ?_, fun c i q => by rw [un_ne (by omega) (by omega), up_na _ _ _ _ (by omega), up_na _ _ _ _ (by omega)], frO.rf⟩
      rw [hs]
      refine hh.nowW ⟨rfl, rfl, rfl, rfl⟩ ⟨rfl, rfl, rfl, rfl⟩ ⟨hok.1, Or.inr ⟨t1, hok2, t3⟩⟩ (by omega) (fun c i q1 q2 q3 => by rw [un_ne q2 q3, up_na _ _ _ _ (by omega), up_na _ _ _ _ (by omega)]) ⟨⟨?_, ?_, ?_, fun s s0 s1 => ?_, fun a a0 a1 => ⟨?_, fun b b0 b1 => ?_⟩⟩, ?_, fun a a0 a1 => ?_⟩ (Or.inl un_b) (Or.inl (up_eq _ _ _ _))
      · rw [un_ne (by omega) (by omega), up_na _ _ _ _ (by omega), up_na _ _ _ _ (by omega)]
        exact t5.1
      · rw [un_ne (by omega) (by omega), up_na _ _ _ _ (by omega), up_na _ _ _ _ (by omega)]
        exact t5.2.1
      · rw [un_ne (by omega) (by omega), up_na _ _ _ _ (by omega), up_na _ _ _ _ (by omega)]
        exact t5.2.2.1
      · rw [un_ne (by omega) (by omega)]
        show _ = u1 (u1 V.C.od (seatI V g) k) (seatI V k) g s
        by_cases q1 : s = seatI V k
        · rw [q1, up_eq, u1_eq]
        · rw [up_ni _ _ q1, u1_ne q1]
          by_cases q2 : s = seatI V g
          · rw [q2, up_eq, u1_eq]
          · rw [up_ni _ _ q2, u1_ne q2]
            exact t5.2.2.2.1 s s0 s1
      · rw [un_ne (by omega) (by omega), up_na _ _ _ _ (by omega), up_na _ _ _ _ (by omega)]
        exact (t5.2.2.2.2 a a0 a1).1
      · have a1' : a < V.T.ng := a1
        rw [un_ne (by omega) (by omega), up_na _ _ _ _ (by omega), up_na _ _ _ _ (by omega)]
        exact (t5.2.2.2.2 a a0 a1).2 b b0 b1
      · rw [un_ne (by omega) (by omega), up_na _ _ _ _ (by omega), up_na _ _ _ _ (by omega)]
        exact t6
      · rw [un_ne (by omega) (by omega), up_na _ _ _ _ (by omega), up_na _ _ _ _ (by omega)]
        exact t7 a a0 a1
    · rw [e7] at hv10
      refine wk_if_ne (t := 18) (q := 16) dX6_swap_13 rfl rfl (by omega) (fun hq => absurd hq (by decide)) (fun _ => ?_)
      refine wk_iconst (q := 17) dX6_swap_16 rfl ?_
      refine wk_iret dX6_swap_17 rfl ⟨Nat.le_refl _, Nat.le_refl _⟩ rfl ?_
      refine cp_same h ?_ ?_
      · unfold s_swap
        first
          | rw [if_neg (fun q => hv2 q.1)]
          | rw [if_neg (fun q => hv10 q.2)]
      · unfold r_swap
        first
          | rw [if_neg (fun q => hv2 q.1)]
          | rw [if_neg (fun q => hv10 q.2)]
  · rw [e7] at hv2
    refine wk_if_eq (t := 16) (q := 8) dX6_swap_5 rfl rfl (by omega) (fun _ => ?_) (fun hq => absurd hq (by decide))
    refine wk_iconst (q := 17) dX6_swap_16 rfl ?_
    refine wk_iret dX6_swap_17 rfl ⟨Nat.le_refl _, Nat.le_refl _⟩ rfl ?_
    refine cp_same h ?_ ?_
    · unfold s_swap
      first
        | rw [if_neg (fun q => hv2 q.1)]
        | rw [if_neg (fun q => hv10 q.2)]
    · unfold r_swap
      first
        | rw [if_neg (fun q => hv2 q.1)]
        | rw [if_neg (fun q => hv10 q.2)]
/-- one field of now is written, and what was found forgotten -/
theorem CI0.nowF {b : Nat} {x : Nat} {V V' : VV} {o d u1 u2 u3 : Nat} {f v : Int} (h : CI0 b n sh x I L R V o d u1 u2 u3) (hp : 0 < V.T.ng) (hf : f = 6 ∨ f = 7) (hV : V'.T = V.T ∧ V'.ni = V.ni ∧ V'.tr = V.tr ∧ V'.fa = V.fa) (hV2 : V'.th = V.th ∧ V'.so = V.so ∧ V'.sl = V.sl ∧ V'.ce = V.ce) (hok : V'.ok) (hla : V'.la = V.la) (hC1 : V'.C.se = V.C.se ∧ V'.C.od = V.C.od ∧ V'.C.kd = V.C.kd ∧ V'.C.sa = V.C.sa) (hst : V'.C.st = if f = 6 then v else V.C.st) (hco : V'.C.co = if f = 7 then v else V.C.co) :
    CI0 b n sh x (up (up (up I (x + 30) f v) (x + 150) 0 0) (x + 154) 0 0) L R V' o d u1 u2 u3 := by
  obtain ⟨t1, t2, t3, t4, t5, t6, t7⟩ := h.full hp
  have hng := t1.2.1
  obtain ⟨c1, c2, c3, c4⟩ := hC1
  refine h.nowW hV hV2 hok hp (fun c i q1 q2 q3 => by rw [un_ne q2 q3, up_na _ _ _ _ (by omega)]) ⟨⟨?_, ?_, ?_, fun s s0 s1 => ?_, fun a a0 a1 => ?_⟩, ?_, fun a a0 a1 => ?_⟩ (Or.inl un_b) (Or.inl (up_eq _ _ _ _))
  · rw [un_ne (by omega) (by omega), up_off (by omega), c1]
    exact t5.1
  · rw [un_ne (by omega) (by omega), hst]
    rcases hf with rfl | rfl
    · rw [up_eq, if_pos rfl]
    · rw [up_off (by omega), if_neg (by omega)]
      exact t5.2.1
  · rw [un_ne (by omega) (by omega), hco]
    rcases hf with rfl | rfl
    · rw [up_off (by omega), if_neg (by omega)]
      exact t5.2.2.1
    · rw [up_eq, if_pos rfl]
  · rw [un_ne (by omega) (by omega), up_off (by omega), c2]
    exact t5.2.2.2.1 s s0 (by rw [← c1]; exact s1)
  · rw [hV.1] at a1
    rw [un_ne (by omega) (by omega), up_off (by omega), c3, c4]
    refine ⟨(t5.2.2.2.2 a a0 a1).1, fun b b0 b1 => ?_⟩
    rw [hV.1] at b1
    rw [un_ne (by omega) (by omega), up_off (by omega)]
    exact (t5.2.2.2.2 a a0 a1).2 b b0 b1
  · rw [un_ne (by omega) (by omega), up_off (by omega)]
    exact t6
  · rw [un_ne (by omega) (by omega), up_off (by omega), hla]
    exact t7 a a0 (by rw [← hV.1]; exact a1)
theorem oc_step {x : Nat} {V : VV} {v : Int} (h : CI E.2.2 n sh x I L R V) (hv : in32 v) :
    Ct l E 1 mX6_step [.ref x, .int (zI v)] (n, sh, I, L, R) 0 0 (qZ n sh (cpZ E.2.2 n sh x I R (r_step V v) (s_step V v))) := by
  obtain ⟨o, dr, u1', u2', u3', hh⟩ := id h
  obtain ⟨hX, hod, hok, h10, h11, h12, hS, hT, hB, hC⟩ := id hh
  have hng := hok.ng
  have e7 := hT.1.2.1
  refine Ct.of (lo := [(0, _), (1, _)]) ok_X6_step (Nat.le_of_ble_eq_true rfl) rfl ?_
  refine wk_iload_n (i := 1) (q := 1) dX6_step_0 rfl rfl rfl ?_
  refine wk_iconst (q := 2) dX6_step_1 rfl ?_
  refine wk_icmp_lt (t := 18) (q := 5) dX6_step_2 rfl rfl (by omega) (by omega) (fun hc2 => ?_) (fun hc2 => ?_)
  · refine wk_bipush (q := 20) dX6_step_18 rfl (by decide +kernel) ?_
    refine wk_iret dX6_step_20 rfl ⟨Nat.le_refl _, Nat.le_refl _⟩ rfl ?_
    refine cp_same h ?_ ?_
    · unfold s_step
      rw [if_neg (by omega)]
    · unfold r_step
      rw [if_neg (by omega)]
  · refine wk_iload_n (i := 1) (q := 6) dX6_step_5 rfl rfl rfl ?_
    refine wk_aload_n (i := 0) (q := 7) dX6_step_6 rfl rfl rfl ?_
    refine wk_getR (fi := 1) (q := 10) dX6_step_7 rfl fl_X6_20 rfl rfl hX.ob hX.r1 ?_
    refine wk_getI (fi := 7) (q := 13) dX6_step_10 rfl fl_X6_88 rfl rfl hX.o1.ob ?_
    refine wk_iconst (q := 14) dX6_step_13 rfl ?_
    refine wk_isub (q := 15) dX6_step_14 rfl ?_
    refine wk_icmp_le (t := 21) (q := 18) dX6_step_15 rfl rfl (by omega) (by omega) (fun hc15 => ?_) (fun hc15 => ?_)
    · refine wk_aload_n (i := 0) (q := 22) dX6_step_21 rfl rfl rfl ?_
      refine wk_getR (fi := 3) (q := 25) dX6_step_22 rfl fl_X6_30 rfl rfl hX.ob hX.r3 ?_
      refine wk_getI (fi := 6) (q := 28) dX6_step_25 rfl fl_X6_135 rfl rfl hX.t3.1.ob ?_
      refine wk_istore_n (i := 2) (lo' := [(0, _), (1, _), (2, _)]) (q := 29) dX6_step_28 rfl rfl (by decide) rfl ?_
      refine wk_aload_n (i := 0) (q := 30) dX6_step_29 rfl rfl rfl ?_
      refine wk_getR (fi := 3) (q := 33) dX6_step_30 rfl fl_X6_30 rfl rfl hX.ob hX.r3 ?_
      refine wk_iload_n (i := 1) (q := 34) dX6_step_33 rfl rfl rfl ?_
      refine wk_putI (fi := 6) (q := 37) dX6_step_34 rfl fl_X6_135 fw_4_6 rfl rfl hX.t3.1.ob ?_
      refine wk_aload_n (i := 0) (q := 38) dX6_step_37 rfl rfl rfl ?_
      refine wk_cV0 (q := 41) dX6_step_38 rfl vl_X6_85 ⟨_, _, rfl⟩ hX.ob (ct_X6_unsettle hX) (qRo_m ok_X6_unsettle (by decide) (Nat.le_refl _) (Nat.le_refl _)) (Nat.le_of_ble_eq_true rfl) (fun I38 L38 R38 hv38 => ?_)
      obtain ⟨rfl, rfl, rfl⟩ := hv38
      refine wk_iload_n (i := 2) (q := 42) dX6_step_41 rfl rfl rfl ?_
      refine wk_iret dX6_step_42 rfl ⟨Nat.le_refl _, Nat.le_refl _⟩ rfl ?_
      obtain ⟨t1, t2, t3, t4, t5, t6, t7⟩ := hh.full (by omega)
      have hs : s_step V v = V.setC (V.C.setSt v) := by
        unfold s_step
        rw [if_pos (by omega)]
      have hr : I (x + 30) 6 = r_step V v := by
        unfold r_step
        rw [if_pos (by omega)]
        exact t5.2.1
      refine ⟨_, _, _, _, rfl, rfl, hr, CI0.ci (o := o) (d := dr) (u1 := u1') (u2 := u2') (u3 := u3') ?_, fun c i q => by rw [un_ne (by omega) (by omega), up_na _ _ _ _ (by omega)], frO.rf⟩
      rw [hs]
      exact hh.nowF (by omega) (Or.inl rfl) ⟨rfl, rfl, rfl, rfl⟩ ⟨rfl, rfl, rfl, rfl⟩ ⟨hok.1, Or.inr ⟨t1, ⟨CC.ok_st t2.1 (by omega), t2.2⟩, t3⟩⟩ rfl ⟨rfl, rfl, rfl, rfl⟩ (by rw [if_pos rfl]; rfl) (by rw [if_neg (by omega)]; rfl)
    · refine wk_bipush (q := 20) dX6_step_18 rfl (by decide +kernel) ?_
      refine wk_iret dX6_step_20 rfl ⟨Nat.le_refl _, Nat.le_refl _⟩ rfl ?_
      refine cp_same h ?_ ?_
      · unfold s_step
        rw [if_neg (by omega)]
      · unfold r_step
        rw [if_neg (by omega)]
theorem oc_courses {x : Nat} {V : VV} {v : Int} (h : CI E.2.2 n sh x I L R V) (hv : in32 v) :
    Ct l E 1 mX6_courses [.ref x, .int (zI v)] (n, sh, I, L, R) 0 0 (qZ n sh (cpZ E.2.2 n sh x I R (r_courses V v) (s_courses V v))) := by
  obtain ⟨o, dr, u1', u2', u3', hh⟩ := id h
  obtain ⟨hX, hod, hok, h10, h11, h12, hS, hT, hB, hC⟩ := id hh
  have hng := hok.ng
  have e7 := hT.1.2.1
  refine Ct.of (lo := [(0, _), (1, _)]) ok_X6_courses (Nat.le_of_ble_eq_true rfl) rfl ?_
  refine wk_iload_n (i := 1) (q := 1) dX6_courses_0 rfl rfl rfl ?_
  refine wk_iconst (q := 2) dX6_courses_1 rfl ?_
  refine wk_icmp_lt (t := 11) (q := 5) dX6_courses_2 rfl rfl (by omega) (by omega) (fun hc2 => ?_) (fun hc2 => ?_)
  · refine wk_bipush (q := 13) dX6_courses_11 rfl (by decide +kernel) ?_
    refine wk_iret dX6_courses_13 rfl ⟨Nat.le_refl _, Nat.le_refl _⟩ rfl ?_
    refine cp_same h ?_ ?_
    · unfold s_courses
      first
        | rw [if_pos (by omega)]
        | rw [if_neg (by omega), if_neg (by omega)]
    · unfold r_courses
      first
        | rw [if_pos (by omega)]
        | rw [if_neg (by omega), if_neg (by omega)]
  · refine wk_iload_n (i := 1) (q := 6) dX6_courses_5 rfl rfl rfl ?_
    refine wk_bipush (q := 8) dX6_courses_6 rfl (by decide +kernel) ?_
    refine wk_icmp_le (t := 14) (q := 11) dX6_courses_8 rfl rfl (by omega) (by omega) (fun hc8 => ?_) (fun hc8 => ?_)
    · refine wk_aload_n (i := 0) (q := 15) dX6_courses_14 rfl rfl rfl ?_
      refine wk_cP0 (q := 18) dX6_courses_15 rfl vl_X6_138 ⟨_, _, rfl⟩ hX.ob (ct_X6_isTable hX (by omega)) (qRo_m ok_X6_isTable (by decide) (Nat.le_refl _) (Nat.le_refl _)) (Nat.le_of_ble_eq_true rfl) (fun v15 hv15 => ?_)
      rcases hv15 with ⟨rfl, hv15⟩ | ⟨rfl, hv15⟩
      · rw [e7] at hv15
        refine wk_if_ne (t := 24) (q := 21) dX6_courses_18 rfl rfl (by omega) (fun _ => ?_) (fun hq => absurd hq (by decide))
        refine wk_aload_n (i := 0) (q := 25) dX6_courses_24 rfl rfl rfl ?_
        refine wk_getR (fi := 3) (q := 28) dX6_courses_25 rfl fl_X6_30 rfl rfl hX.ob hX.r3 ?_
        refine wk_getI (fi := 7) (q := 31) dX6_courses_28 rfl fl_X6_142 rfl rfl hX.t3.1.ob ?_
        refine wk_istore_n (i := 2) (lo' := [(0, _), (1, _), (2, _)]) (q := 32) dX6_courses_31 rfl rfl (by decide) rfl ?_
        refine wk_aload_n (i := 0) (q := 33) dX6_courses_32 rfl rfl rfl ?_
        refine wk_getR (fi := 3) (q := 36) dX6_courses_33 rfl fl_X6_30 rfl rfl hX.ob hX.r3 ?_
        refine wk_iload_n (i := 1) (q := 37) dX6_courses_36 rfl rfl rfl ?_
        refine wk_putI (fi := 7) (q := 40) dX6_courses_37 rfl fl_X6_142 fw_4_7 rfl rfl hX.t3.1.ob ?_
        refine wk_aload_n (i := 0) (q := 41) dX6_courses_40 rfl rfl rfl ?_
        refine wk_cV0 (q := 44) dX6_courses_41 rfl vl_X6_85 ⟨_, _, rfl⟩ hX.ob (ct_X6_unsettle hX) (qRo_m ok_X6_unsettle (by decide) (Nat.le_refl _) (Nat.le_refl _)) (Nat.le_of_ble_eq_true rfl) (fun I41 L41 R41 hv41 => ?_)
        obtain ⟨rfl, rfl, rfl⟩ := hv41
        refine wk_iload_n (i := 2) (q := 45) dX6_courses_44 rfl rfl rfl ?_
        refine wk_iret dX6_courses_45 rfl ⟨Nat.le_refl _, Nat.le_refl _⟩ rfl ?_
        obtain ⟨t1, t2, t3, t4, t5, t6, t7⟩ := hh.full (by omega)
        have hs : s_courses V v = V.setC (V.C.setCo v) := by
          unfold s_courses
          rw [if_neg (by omega), if_pos (by omega)]
        have hr : I (x + 30) 7 = r_courses V v := by
          unfold r_courses
          rw [if_neg (by omega), if_pos (by omega)]
          exact t5.2.2.1
        refine ⟨_, _, _, _, rfl, rfl, hr, CI0.ci (o := o) (d := dr) (u1 := u1') (u2 := u2') (u3 := u3') ?_, fun c i q => by rw [un_ne (by omega) (by omega), up_na _ _ _ _ (by omega)], frO.rf⟩
        rw [hs]
        exact hh.nowF (by omega) (Or.inr rfl) ⟨rfl, rfl, rfl, rfl⟩ ⟨rfl, rfl, rfl, rfl⟩ ⟨hok.1, Or.inr ⟨t1, ⟨CC.ok_co t2.1 (by omega), t2.2⟩, t3⟩⟩ rfl ⟨rfl, rfl, rfl, rfl⟩ (by rw [if_neg (by omega)]; rfl) (by rw [if_pos rfl]; rfl)
      · rw [e7] at hv15
        refine wk_if_ne (t := 24) (q := 21) dX6_courses_18 rfl rfl (by omega) (fun hq => absurd hq (by decide)) (fun _ => ?_)
        refine wk_bipush (q := 23) dX6_courses_21 rfl (by decide +kernel) ?_
        refine wk_iret dX6_courses_23 rfl ⟨Nat.le_refl _, Nat.le_refl _⟩ rfl ?_
        refine cp_same h ?_ ?_
        · unfold s_courses
          first
            | rw [if_pos (by omega)]
            | rw [if_neg (by omega), if_neg (by omega)]
        · unfold r_courses
          first
            | rw [if_pos (by omega)]
            | rw [if_neg (by omega), if_neg (by omega)]
    · refine wk_bipush (q := 13) dX6_courses_11 rfl (by decide +kernel) ?_
      refine wk_iret dX6_courses_13 rfl ⟨Nat.le_refl _, Nat.le_refl _⟩ rfl ?_
      refine cp_same h ?_ ?_
      · unfold s_courses
        first
          | rw [if_pos (by omega)]
          | rw [if_neg (by omega), if_neg (by omega)]
      · unfold r_courses
        first
          | rw [if_pos (by omega)]
          | rw [if_neg (by omega), if_neg (by omega)]
def r_many (V : VV) (w : Int) : Int := if w = 0 then V.T.ng else if w = 1 then V.T.nd else if w = 2 then (if 0 < V.T.ng then V.C.st else 0) else if w = 3 then (if 0 < V.T.ng then V.C.co else 0) else if w = 4 then V.ni else -2
theorem oc_many {x : Nat} {V : VV} {w : Int} (h : CI E.2.2 n sh x I L R V) (hw : in32 w) :
    Ct l E 0 mX6_many [.ref x, .int (zI w)] (n, sh, I, L, R) 0 0 (qP n sh I L R (fun v => v = r_many V w)) := by
  obtain ⟨o, dr, u1', u2', u3', hh⟩ := id h
  obtain ⟨hX, hod, hok, h10, h11, h12, hS, hT, hB, hC⟩ := id hh
  have hng := hok.ng
  have hst : I (x + 30) 6 = (if 0 < V.T.ng then V.C.st else 0) ∧ I (x + 30) 7 = (if 0 < V.T.ng then V.C.co else 0) := by
    rcases hT.2 with q | ⟨q1, q2, q3, q4, q5⟩
    · rw [if_neg (by omega), if_neg (by omega)]
      exact q.2
    · rw [if_pos q1, if_pos q1]
      exact ⟨q3.2.1, q3.2.2.1⟩
  refine Ct.of (lo := [(0, _), (1, _)]) ok_X6_many (Nat.le_of_ble_eq_true rfl) rfl ?_
  refine wk_iload_n (i := 1) (q := 1) dX6_many_0 rfl rfl rfl ?_
  refine wk_ts5 (t0 := 36) (t1 := 44) (t2 := 52) (t3 := 60) (t4 := 68) (td := 73) dX6_many_1 rfl rfl rfl rfl rfl rfl (by omega) (fun hs1 => ?_) (fun hs1 => ?_) (fun hs1 => ?_) (fun hs1 => ?_) (fun hs1 => ?_) (fun hs1 => ?_)
  · refine wk_aload_n (i := 0) (q := 37) dX6_many_36 rfl rfl rfl ?_
    refine wk_getR (fi := 1) (q := 40) dX6_many_37 rfl fl_X6_20 rfl rfl hX.ob hX.r1 ?_
    refine wk_getI (fi := 7) (q := 43) dX6_many_40 rfl fl_X6_88 rfl rfl hX.o1.ob ?_
    refine wk_iret dX6_many_43 rfl ⟨Nat.le_refl _, Nat.le_refl _⟩ rfl ?_
    refine ⟨_, _, _, _, rfl, rfl, rfl, rfl, rfl, ?_⟩
    unfold r_many
    first
      | (rw [if_pos hs1]; exact hT.1.2.1)
      | (rw [if_neg (by omega), if_pos hs1]; exact hT.1.1)
      | (rw [if_neg (by omega), if_neg (by omega), if_pos hs1]; exact hst.1)
      | (rw [if_neg (by omega), if_neg (by omega), if_neg (by omega), if_pos hs1]; exact hst.2)
      | (rw [if_neg (by omega), if_neg (by omega), if_neg (by omega), if_neg (by omega), if_pos hs1]; exact h10)
      | rw [if_neg (by omega), if_neg (by omega), if_neg (by omega), if_neg (by omega), if_neg (by omega)]
  · refine wk_aload_n (i := 0) (q := 45) dX6_many_44 rfl rfl rfl ?_
    refine wk_getR (fi := 1) (q := 48) dX6_many_45 rfl fl_X6_20 rfl rfl hX.ob hX.r1 ?_
    refine wk_getI (fi := 6) (q := 51) dX6_many_48 rfl fl_X6_235 rfl rfl hX.o1.ob ?_
    refine wk_iret dX6_many_51 rfl ⟨Nat.le_refl _, Nat.le_refl _⟩ rfl ?_
    refine ⟨_, _, _, _, rfl, rfl, rfl, rfl, rfl, ?_⟩
    unfold r_many
    first
      | (rw [if_pos hs1]; exact hT.1.2.1)
      | (rw [if_neg (by omega), if_pos hs1]; exact hT.1.1)
      | (rw [if_neg (by omega), if_neg (by omega), if_pos hs1]; exact hst.1)
      | (rw [if_neg (by omega), if_neg (by omega), if_neg (by omega), if_pos hs1]; exact hst.2)
      | (rw [if_neg (by omega), if_neg (by omega), if_neg (by omega), if_neg (by omega), if_pos hs1]; exact h10)
      | rw [if_neg (by omega), if_neg (by omega), if_neg (by omega), if_neg (by omega), if_neg (by omega)]
  · refine wk_aload_n (i := 0) (q := 53) dX6_many_52 rfl rfl rfl ?_
    refine wk_getR (fi := 3) (q := 56) dX6_many_53 rfl fl_X6_30 rfl rfl hX.ob hX.r3 ?_
    refine wk_getI (fi := 6) (q := 59) dX6_many_56 rfl fl_X6_135 rfl rfl hX.t3.1.ob ?_
    refine wk_iret dX6_many_59 rfl ⟨Nat.le_refl _, Nat.le_refl _⟩ rfl ?_
    refine ⟨_, _, _, _, rfl, rfl, rfl, rfl, rfl, ?_⟩
    unfold r_many
    first
      | (rw [if_pos hs1]; exact hT.1.2.1)
      | (rw [if_neg (by omega), if_pos hs1]; exact hT.1.1)
      | (rw [if_neg (by omega), if_neg (by omega), if_pos hs1]; exact hst.1)
      | (rw [if_neg (by omega), if_neg (by omega), if_neg (by omega), if_pos hs1]; exact hst.2)
      | (rw [if_neg (by omega), if_neg (by omega), if_neg (by omega), if_neg (by omega), if_pos hs1]; exact h10)
      | rw [if_neg (by omega), if_neg (by omega), if_neg (by omega), if_neg (by omega), if_neg (by omega)]
  · refine wk_aload_n (i := 0) (q := 61) dX6_many_60 rfl rfl rfl ?_
    refine wk_getR (fi := 3) (q := 64) dX6_many_61 rfl fl_X6_30 rfl rfl hX.ob hX.r3 ?_
    refine wk_getI (fi := 7) (q := 67) dX6_many_64 rfl fl_X6_142 rfl rfl hX.t3.1.ob ?_
    refine wk_iret dX6_many_67 rfl ⟨Nat.le_refl _, Nat.le_refl _⟩ rfl ?_
    refine ⟨_, _, _, _, rfl, rfl, rfl, rfl, rfl, ?_⟩
    unfold r_many
    first
      | (rw [if_pos hs1]; exact hT.1.2.1)
      | (rw [if_neg (by omega), if_pos hs1]; exact hT.1.1)
      | (rw [if_neg (by omega), if_neg (by omega), if_pos hs1]; exact hst.1)
      | (rw [if_neg (by omega), if_neg (by omega), if_neg (by omega), if_pos hs1]; exact hst.2)
      | (rw [if_neg (by omega), if_neg (by omega), if_neg (by omega), if_neg (by omega), if_pos hs1]; exact h10)
      | rw [if_neg (by omega), if_neg (by omega), if_neg (by omega), if_neg (by omega), if_neg (by omega)]
  · refine wk_aload_n (i := 0) (q := 69) dX6_many_68 rfl rfl rfl ?_
    refine wk_getI (fi := 10) (q := 72) dX6_many_69 rfl fl_X6_81 rfl rfl hX.ob ?_
    refine wk_iret dX6_many_72 rfl ⟨Nat.le_refl _, Nat.le_refl _⟩ rfl ?_
    refine ⟨_, _, _, _, rfl, rfl, rfl, rfl, rfl, ?_⟩
    unfold r_many
    first
      | (rw [if_pos hs1]; exact hT.1.2.1)
      | (rw [if_neg (by omega), if_pos hs1]; exact hT.1.1)
      | (rw [if_neg (by omega), if_neg (by omega), if_pos hs1]; exact hst.1)
      | (rw [if_neg (by omega), if_neg (by omega), if_neg (by omega), if_pos hs1]; exact hst.2)
      | (rw [if_neg (by omega), if_neg (by omega), if_neg (by omega), if_neg (by omega), if_pos hs1]; exact h10)
      | rw [if_neg (by omega), if_neg (by omega), if_neg (by omega), if_neg (by omega), if_neg (by omega)]
  · refine wk_bipush (q := 75) dX6_many_73 rfl (by decide +kernel) ?_
    refine wk_iret dX6_many_75 rfl ⟨Nat.le_refl _, Nat.le_refl _⟩ rfl ?_
    refine ⟨_, _, _, _, rfl, rfl, rfl, rfl, rfl, ?_⟩
    unfold r_many
    first
      | (rw [if_pos hs1]; exact hT.1.2.1)
      | (rw [if_neg (by omega), if_pos hs1]; exact hT.1.1)
      | (rw [if_neg (by omega), if_neg (by omega), if_pos hs1]; exact hst.1)
      | (rw [if_neg (by omega), if_neg (by omega), if_neg (by omega), if_pos hs1]; exact hst.2)
      | (rw [if_neg (by omega), if_neg (by omega), if_neg (by omega), if_neg (by omega), if_pos hs1]; exact h10)
      | rw [if_neg (by omega), if_neg (by omega), if_neg (by omega), if_neg (by omega), if_neg (by omega)]
theorem oc_forget {x : Nat} {V : VV} (h : CI E.2.2 n sh x I L R V) :
    Ct l E 2 mX6_forget [.ref x] (n, sh, I, L, R) 0 0 (qZ n sh (cpZ E.2.2 n sh x I R (cntL V.la V.T.ng.toNat) (V.setLa (fun _ => -8)))) := by
  obtain ⟨o, dr, u1', u2', u3', hh⟩ := id h
  obtain ⟨hX, hod, hok, h10, h11, h12, hS, hT, hB, hC⟩ := id hh
  have hng := hok.ng
  have e7 := hT.1.2.1
  have hla : ∀ g, 0 ≤ g → g < V.T.ng → I (x + 30 + 17) g = V.la g ∧ in32 (V.la g) := fun g g0 g1 => by
    obtain ⟨t1, t2, t3, t4, t5, t6, t7⟩ := hh.full (by omega)
    have := t3 g g0 g1
    exact ⟨t7 g g0 g1, by omega, by omega⟩
  have fin : CI E.2.2 n sh x (fillI I (x + 30 + 17) 7 (-8)) L R (V.setLa (fun _ => -8)) := by
    refine CI0.ci (o := o) (d := dr) (u1 := u1') (u2 := u2') (u3 := u3') (hh.gen hX rfl ⟨hok.1, ?_⟩ (fun c i q1 q2 => fillI_ne _ _ _ (by omega)) (by rw [fillI_ne _ _ _ (by omega)]; exact h10) (by rw [fillI_ne _ _ _ (by omega)]; exact h11) (by rw [fillI_ne _ _ _ (by omega)]; exact h12) (hS.cg ⟨rfl, rfl, rfl, rfl⟩ (fun c i q1 q2 => fillI_ne _ _ _ (by omega))) (fun q => ?_) (fun q => ?_) ?_ ?_)
    · rcases hok.2 with q | ⟨q1, q2, q3⟩
      · exact Or.inl q
      · refine Or.inr ⟨q1, q2, fun g g0 g1 => ?_⟩
        have := q1.2.2.1
        show (-9 : Int) ≤ -8 ∧ (-8 : Int) < V.T.nd ∧ ((-8 : Int) < 0 → (-8 : Int) ≤ -8)
        omega
    · rw [fillI_ne _ _ _ (by omega), fillI_ne _ _ _ (by omega)]
      rcases hT.2 with z | z
      · exact z.2
      · omega
    · obtain ⟨t1, t2, t3, t4, t5, t6, t7⟩ := hh.full q
      exact ⟨t5.cg hng.2.1 (fun c i z => fillI_ne _ _ _ (by omega)), by rw [fillI_ne _ _ _ (by omega)]; exact t6, fun g g0 g1 => fillI_in (by have : g < V.T.ng := g1; omega)⟩
    · show caB _ _ _ V.T V.C
      unfold caB at hB ⊢
      rw [fillI_ne _ _ _ (by omega)]
      exact hB
    · show caS _ _ V.T V.C
      unfold caS at hC ⊢
      rw [fillI_ne _ _ _ (by omega)]
      rcases hC with z | ⟨z1, z2, z3⟩
      · exact Or.inl z
      · exact Or.inr ⟨z1, z2, fun aim a0 a1 => ⟨by rw [fillI_ne _ _ _ (by omega)]; exact (z3 aim a0 a1).1, fun s s0 s1 => by rw [fillI_ne _ _ _ (by omega)]; exact (z3 aim a0 a1).2 s s0 s1⟩⟩
  have loop : ∀ k : Nat, k ≤ V.T.ng.toNat → Wk l E (qmo E 2 n 0 0 (qZ n sh (cpZ E.2.2 n sh x I R (cntL V.la V.T.ng.toNat) (V.setLa (fun _ => -8))))) mX6_forget 0 0 4
      [(0, .ref x), (1, .int (zI (cntL V.la k))), (2, .int (zI (k : Int)))] [] (n, sh, I, L, R) := by
    refine up_ind V.T.ng.toNat ?_ ?_
    · skip
      refine wk_iload_n (i := 2) (q := 5) dX6_forget_4 rfl rfl rfl ?_
      refine wk_aload_n (i := 0) (q := 6) dX6_forget_5 rfl rfl rfl ?_
      refine wk_getR (fi := 1) (q := 9) dX6_forget_6 rfl fl_X6_20 rfl rfl hX.ob hX.r1 ?_
      refine wk_getI (fi := 7) (q := 12) dX6_forget_9 rfl fl_X6_88 rfl rfl hX.o1.ob ?_
      refine wk_icmp_ge (t := 38) (q := 15) dX6_forget_12 rfl rfl (by omega) (by omega) (fun hc12 => ?_) (fun hc12 => ?_)
      · refine wk_aload_n (i := 0) (q := 39) dX6_forget_38 rfl rfl rfl ?_
        refine wk_getR (fi := 3) (q := 42) dX6_forget_39 rfl fl_X6_30 rfl rfl hX.ob hX.r3 ?_
        refine wk_cV0 (q := 45) dX6_forget_42 rfl vl_X6_151 ⟨_, _, rfl⟩ hX.t3.1.ob (ct_X4_clearMemory hX.t3) (qRo_m ok_X4_clearMemory (by decide) (Nat.le_refl _) (Nat.le_refl _)) (Nat.le_of_ble_eq_true rfl) (fun I42 L42 R42 hv42 => ?_)
        obtain ⟨rfl, rfl, rfl⟩ := hv42
        refine wk_iload_n (i := 1) (q := 46) dX6_forget_45 rfl rfl rfl ?_
        refine wk_iret dX6_forget_46 rfl ⟨Nat.le_refl _, Nat.le_refl _⟩ rfl ?_
        exact ⟨_, _, _, _, rfl, rfl, rfl, fin, fun c i q => fillI_ne _ _ _ (by omega), frO.rf⟩
      · omega
    · rintro k hk ih
      have h1 := hla k (by omega) (by omega)
      have h2 : cntL V.la (k + 1) = cntL V.la k + if V.la k = -8 then 0 else 1 := rfl
      rw [h2] at ih
      refine wk_iload_n (i := 2) (q := 5) dX6_forget_4 rfl rfl rfl ?_
      refine wk_aload_n (i := 0) (q := 6) dX6_forget_5 rfl rfl rfl ?_
      refine wk_getR (fi := 1) (q := 9) dX6_forget_6 rfl fl_X6_20 rfl rfl hX.ob hX.r1 ?_
      refine wk_getI (fi := 7) (q := 12) dX6_forget_9 rfl fl_X6_88 rfl rfl hX.o1.ob ?_
      refine wk_icmp_ge (t := 38) (q := 15) dX6_forget_12 rfl rfl (by omega) (by omega) (fun hc12 => ?_) (fun hc12 => ?_)
      · omega
      · refine wk_aload_n (i := 0) (q := 16) dX6_forget_15 rfl rfl rfl ?_
        refine wk_getR (fi := 3) (q := 19) dX6_forget_16 rfl fl_X6_30 rfl rfl hX.ob hX.r3 ?_
        refine wk_getR (fi := 3) (q := 22) dX6_forget_19 rfl fl_X6_118 rfl rfl hX.t3.1.ob hX.t3.1.r3 ?_
        refine wk_iload_n (i := 2) (q := 23) dX6_forget_22 rfl rfl rfl ?_
        refine wk_iald (q := 24) dX6_forget_23 rfl hX.t3.1.s3 (by omega) ?_
        refine wk_bipush (q := 26) dX6_forget_24 rfl (by decide +kernel) ?_
        refine wk_icmp_eq (t := 32) (q := 29) dX6_forget_26 rfl rfl (by omega) (by omega) (fun hc26 => ?_) (fun hc26 => ?_)
        · refine wk_iinc (lo' := [(0, _), (1, _), (2, _)]) (q := 35) dX6_forget_32 rfl rfl (by decide) rfl ?_
          refine wk_goto (t := 4) dX6_forget_35 rfl ?_
          first
          | (rw [if_neg (by omega)] at ih; exact ih)
          | (rw [if_pos (by omega), Int.add_zero] at ih; exact ih)
        · refine wk_iinc (lo' := [(0, _), (1, _), (2, _)]) (q := 32) dX6_forget_29 rfl rfl (by decide) rfl ?_
          refine wk_iinc (lo' := [(0, _), (1, _), (2, _)]) (q := 35) dX6_forget_32 rfl rfl (by decide) rfl ?_
          refine wk_goto (t := 4) dX6_forget_35 rfl ?_
          first
          | (rw [if_neg (by omega)] at ih; exact ih)
          | (rw [if_pos (by omega), Int.add_zero] at ih; exact ih)
  refine Ct.of (lo := [(0, _)]) ok_X6_forget (Nat.le_of_ble_eq_true rfl) rfl ?_
  have l0 := loop 0 (Nat.zero_le _)
  refine wk_iconst (q := 1) dX6_forget_0 rfl ?_
  refine wk_istore_n (i := 1) (lo' := [(0, _), (1, _)]) (q := 2) dX6_forget_1 rfl rfl (by decide) rfl ?_
  refine wk_iconst (q := 3) dX6_forget_2 rfl ?_
  refine wk_istore_n (i := 2) (lo' := [(0, _), (1, _), (2, _)]) (q := 4) dX6_forget_3 rfl rfl (by decide) rfl ?_
  exact l0
end CLS3
