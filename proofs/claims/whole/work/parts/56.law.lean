/-! the law, the chair -/
def lawC (V : VV) (v : Int) : CC := V.C.setSt v
theorem lawC_ok {V : VV} (h : V.C.now V.T) {v : Int} (hv : 1 ≤ v ∧ v < V.T.ng) : (lawC V v).now V.T := ⟨CC.ok_st h.1 hv, h.2⟩
def lawG (V : VV) (v : Int) : Int := sumI (evE V.T (lawC V v) V.la).gl V.T.ng.toNat
def lawF (V : VV) : Nat → Int × Int
  | 0 => (-1, 0)
  | k + 1 => if (lawF V k).1 < lawG V ((k : Int) + 1) then (lawG V ((k : Int) + 1), (k : Int) + 1) else lawF V k
def r_law (V : VV) (w : Int) : Int := if ¬ (w = 0 ∨ w = 1) then -2 else if ¬ 0 < V.T.ng then -3 else if w = 0 then (lawF V (V.T.ng - 1).toNat).2 else (lawF V (V.T.ng - 1).toNat).1
theorem gl_sum {T : TT} (hT : T.ok) {C : CC} (hC : C.ok T) {la : Int → Int} : 0 ≤ sumI (evE T C la).gl T.ng.toNat ∧ sumI (evE T C la).gl T.ng.toNat ≤ 9576 := by
  have := hT.1
  have := hT.2.1
  have h : 0 ≤ sumI (evE T C la).gl T.ng.toNat ∧ sumI (evE T C la).gl T.ng.toNat ≤ 1368 * ((T.ng.toNat : Nat) : Int) := sumI_bd2 (N := T.ng) (fun g g0 g1 => evE_gl hT hC (la := la) g0 g1) T.ng.toNat (by omega)
  omega
theorem lawF_in {V : VV} (hT : V.T.ok) (hC : V.C.now V.T) : ∀ k : Nat, (k : Int) ≤ V.T.ng - 1 → -1 ≤ (lawF V k).1 ∧ (lawF V k).1 ≤ 9576 ∧ 0 ≤ (lawF V k).2 ∧ (lawF V k).2 ≤ k
  | 0, _ => by
    show (-1 : Int) ≤ -1 ∧ (-1 : Int) ≤ 9576 ∧ (0 : Int) ≤ 0 ∧ (0 : Int) ≤ ((0 : Nat) : Int)
    omega
  | k + 1, hk => by
    have ih := lawF_in hT hC k (by omega)
    have := hT.2.1
    have := gl_sum hT (lawC_ok hC (v := (k : Int) + 1) (by omega)).1 (la := V.la)
    unfold lawF
    split
    · show -1 ≤ lawG V ((k : Int) + 1) ∧ lawG V ((k : Int) + 1) ≤ 9576 ∧ 0 ≤ (k : Int) + 1 ∧ (k : Int) + 1 ≤ ((k + 1 : Nat) : Int)
      unfold lawG
      omega
    · omega
def chC (V : VV) (g : Int) : CC := (V.C.sa, V.C.kd, fun s => if s < seatI V g then V.C.od s else V.C.od (s + 1), V.C.se - 1, V.C.st, V.C.co, V.C.sp)
theorem chC_ok {V : VV} (hV : V.ok) {g : Int} (g0 : 0 ≤ g) (g1 : g < V.T.ng) (h3 : 3 ≤ V.T.ng) : (chC V g).ok V.T := by
  obtain ⟨t1, ⟨⟨z1, z2, z3, z4, z5, z6, z7, z8, z9, z10, z11⟩, y1, y2⟩, t3⟩ := hV.tab (by omega)
  have hs := seatI_ok hV g0 g1
  refine ⟨?_, ?_, z3, z4, z5, z6, z7, z8, fun s s0 s1 => ?_, fun s s' s0 s1 s0' s1' e => ?_, z11⟩
  · show 1 ≤ V.C.se - 1
    omega
  · show V.C.se - 1 ≤ V.T.ng
    omega
  · have s1' : s < V.C.se - 1 := s1
    show 0 ≤ (if s < seatI V g then V.C.od s else V.C.od (s + 1)) ∧ (if s < seatI V g then V.C.od s else V.C.od (s + 1)) < V.T.ng
    split
    · exact z9 s s0 (by omega)
    · exact z9 (s + 1) (by omega) (by omega)
  · have q1 : s < V.C.se - 1 := s1
    have q2 : s' < V.C.se - 1 := s1'
    have e' : (if s < seatI V g then V.C.od s else V.C.od (s + 1)) = (if s' < seatI V g then V.C.od s' else V.C.od (s' + 1)) := e
    by_cases c1 : s < seatI V g <;> by_cases c2 : s' < seatI V g
    · rw [if_pos c1, if_pos c2] at e'
      exact z10 s s' s0 (by omega) s0' (by omega) e'
    · rw [if_pos c1, if_neg c2] at e'
      have := z10 s (s' + 1) s0 (by omega) (by omega) (by omega) e'
      omega
    · rw [if_neg c1, if_pos c2] at e'
      have := z10 (s + 1) s' (by omega) (by omega) s0' (by omega) e'
      omega
    · rw [if_neg c1, if_neg c2] at e'
      have := z10 (s + 1) (s' + 1) (by omega) (by omega) (by omega) (by omega) e'
      omega
def r_chair (V : VV) (g : Int) : Int := if (0 ≤ g ∧ g < V.T.ng) ∧ 3 ≤ V.T.ng ∧ V.C.st < V.T.ng - 1 then sumI (evE V.T (chC V g) V.la).gl V.T.ng.toNat - (sumI (evV V).gl V.T.ng.toNat - (evV V).gl g) else -9223372036854775808
section LAW
variable {l : Launch} {E : qEv} {n : Nat} {sh : qSh} {I L : qI} {R : qR}
theorem oc_law {x : Nat} {V : VV} {w : Int} (h : CI E.2.2 n sh x I L R V) (hw : in32 w) :
    Ct l E 5 mX6_law [.ref x, .int (zI w)] (n, sh, I, L, R) 0 0 (qZ n sh (cpZ E.2.2 n sh x I R (r_law V w) V)) := by
  obtain ⟨o, dr, u1', u2', u3', hh⟩ := id h
  obtain ⟨hX, hod, hok, h10, h11, h12, hS, hT, hB, hC⟩ := id hh
  have hng := hok.ng
  have e7 := hT.1.2.1
  have loop : 0 < V.T.ng → (w = 0 ∨ w = 1) → ∀ k : Nat, k ≤ (V.T.ng - 1).toNat → ∀ (I1 : qI) (R1 : qR) (u2 : Nat), CI0 E.2.2 n sh x I1 L R1 V o dr u1' u2 u3' → frO I I1 x 167 → frO R R1 x 167 → Wk l E (qmo E 5 n 0 0 (qZ n sh (cpZ E.2.2 n sh x I R (r_law V w) V))) mX6_law 0 0 27
      [(0, .ref x), (1, .int (zI w)), (2, .int (zI (lawF V k).1)), (3, .int (zI (lawF V k).2)), (4, .int (zI ((k : Int) + 1)))] [] (n, sh, I1, L, R1) := by
    intro hp hw2
    obtain ⟨t1, t2, t3⟩ := hok.tab hp
    have hlf := lawF_in t1 t2
    refine up_ind (V.T.ng - 1).toNat ?_ ?_
    · rintro I1 R1 u2 hh f1 f2
      have hX := hh.1
      have e7 := hh.2.2.2.2.2.2.2.1.1.2.1
      have q := hlf (V.T.ng - 1).toNat (by omega)
      refine wk_iload (i := 4) (q := 29) dX6_law_27 rfl rfl ?_
      refine wk_aload_n (i := 0) (q := 30) dX6_law_29 rfl rfl rfl ?_
      refine wk_getR (fi := 1) (q := 33) dX6_law_30 rfl fl_X6_20 rfl rfl hX.ob hX.r1 ?_
      refine wk_getI (fi := 7) (q := 36) dX6_law_33 rfl fl_X6_88 rfl rfl hX.o1.ob ?_
      refine wk_icmp_ge (t := 93) (q := 39) dX6_law_36 rfl rfl (by omega) (by omega) (fun hc36 => ?_) (fun hc36 => ?_)
      · refine wk_iload_n (i := 1) (q := 94) dX6_law_93 rfl rfl rfl ?_
        refine wk_if_ne (t := 101) (q := 97) dX6_law_94 rfl rfl (by omega) (fun hc94 => ?_) (fun hc94 => ?_)
        · refine wk_iload_n (i := 2) (q := 102) dX6_law_101 rfl rfl rfl ?_
          refine wk_iret dX6_law_102 rfl ⟨Nat.le_refl _, Nat.le_refl _⟩ rfl ?_
          refine ⟨_, _, _, _, rfl, rfl, ?_, hh.ci, f1, f2⟩
          unfold r_law
          rw [if_neg (by omega), if_neg (by omega)]
          first
            | rw [if_pos hc94]
            | rw [if_neg hc94]
        · refine wk_iload_n (i := 3) (q := 98) dX6_law_97 rfl rfl rfl ?_
          refine wk_goto (t := 102) dX6_law_98 rfl ?_
          refine wk_iret dX6_law_102 rfl ⟨Nat.le_refl _, Nat.le_refl _⟩ rfl ?_
          refine ⟨_, _, _, _, rfl, rfl, ?_, hh.ci, f1, f2⟩
          unfold r_law
          rw [if_neg (by omega), if_neg (by omega)]
          first
            | rw [if_pos hc94]
            | rw [if_neg hc94]
      · omega
    · rintro k hk ih I1 R1 u2 hh f1 f2
      have hX := hh.1
      have e7 := hh.2.2.2.2.2.2.2.1.1.2.1
      have q := hlf k (by omega)
      have hC' := lawC_ok t2 (v := (k : Int) + 1) (by omega)
      have q2 := gl_sum t1 hC'.1 (la := V.la)
      have q3 : lawG V ((k : Int) + 1) = sumI (evE V.T (lawC V ((k : Int) + 1)) V.la).gl V.T.ng.toNat := rfl
      have stay : ¬ (lawF V k).1 < lawG V ((k : Int) + 1) → ∀ (I2 : qI) (R2 : qR) (u2 : Nat), CI0 E.2.2 n sh x I2 L R2 V o dr u1' u2 u3' → frO I I2 x 167 → frO R R2 x 167 → Wk l E (qmo E 5 n 0 0 (qZ n sh (cpZ E.2.2 n sh x I R (r_law V w) V))) mX6_law 0 0 27
          [(0, .ref x), (1, .int (zI w)), (2, .int (zI (lawF V k).1)), (3, .int (zI (lawF V k).2)), (4, .int (zI ((k : Int) + 1 + 1)))] [] (n, sh, I2, L, R2) := by
        intro hq I2 R2 u2 a1 a2 a3
        have := ih I2 R2 u2 a1 a2 a3
        unfold lawF at this
        rw [if_neg hq] at this
        exact this
      have take : (lawF V k).1 < lawG V ((k : Int) + 1) → ∀ (I2 : qI) (R2 : qR) (u2 : Nat), CI0 E.2.2 n sh x I2 L R2 V o dr u1' u2 u3' → frO I I2 x 167 → frO R R2 x 167 → Wk l E (qmo E 5 n 0 0 (qZ n sh (cpZ E.2.2 n sh x I R (r_law V w) V))) mX6_law 0 0 27
          [(0, .ref x), (1, .int (zI w)), (2, .int (zI (lawG V ((k : Int) + 1)))), (3, .int (zI ((k : Int) + 1))), (4, .int (zI ((k : Int) + 1 + 1)))] [] (n, sh, I2, L, R2) := by
        intro hq I2 R2 u2 a1 a2 a3
        have := ih I2 R2 u2 a1 a2 a3
        unfold lawF at this
        rw [if_pos hq] at this
        exact this
      refine wk_iload (i := 4) (q := 29) dX6_law_27 rfl rfl ?_
      refine wk_aload_n (i := 0) (q := 30) dX6_law_29 rfl rfl rfl ?_
      refine wk_getR (fi := 1) (q := 33) dX6_law_30 rfl fl_X6_20 rfl rfl hX.ob hX.r1 ?_
      refine wk_getI (fi := 7) (q := 36) dX6_law_33 rfl fl_X6_88 rfl rfl hX.o1.ob ?_
      refine wk_icmp_ge (t := 93) (q := 39) dX6_law_36 rfl rfl (by omega) (by omega) (fun hc36 => ?_) (fun hc36 => ?_)
      · omega
      · refine wk_aload_n (i := 0) (q := 40) dX6_law_39 rfl rfl rfl ?_
        refine wk_getR (fi := 4) (q := 43) dX6_law_40 rfl fl_X6_34 rfl rfl hX.ob hX.r4 ?_
        refine wk_aload_n (i := 0) (q := 44) dX6_law_43 rfl rfl rfl ?_
        refine wk_getR (fi := 3) (q := 47) dX6_law_44 rfl fl_X6_30 rfl rfl hX.ob hX.r3 ?_
        refine wk_cV1 (q := 50) dX6_law_47 rfl vl_X6_198 ⟨_, _, rfl⟩ hX.t4.1.ob (ct_tri hh hp) (qRo_m ok_X4_become (by decide) (Nat.le_refl _) (Nat.le_refl _)) (Nat.le_of_ble_eq_true rfl) (fun I47 L47 R47 hv47 => ?_)
        obtain ⟨rfl, rfl, h2, j1, j2, j3, j4⟩ := hv47
        have hX := h2.1
        refine wk_aload_n (i := 0) (q := 51) dX6_law_50 rfl rfl rfl ?_
        refine wk_getR (fi := 4) (q := 54) dX6_law_51 rfl fl_X6_34 rfl rfl hX.ob hX.r4 ?_
        refine wk_iload (i := 4) (q := 56) dX6_law_54 rfl rfl ?_
        refine wk_putI (fi := 6) (q := 59) dX6_law_56 rfl fl_X6_135 fw_4_6 rfl rfl hX.t4.1.ob ?_
        skip
        have fy : ∀ b i, ¬ (x + 68 ≤ b ∧ b < x + 106) → up I47 (x + 68) 6 ((k : Int) + 1) b i = I47 b i := fun b i q => up_na _ _ _ _ (by omega)
        have h3 := h2.scr (I' := up I47 (x + 68) 6 ((k : Int) + 1)) h2.1 ⟨rfl, rfl, rfl, rfl, rfl, rfl, rfl⟩ (fun b i q1 q2 => fy b i (by omega)) (by rw [fy _ _ (by omega)]; exact h2.2.2.2.1) (by rw [fy _ _ (by omega)]; exact h2.2.2.2.2.1) (by rw [fy _ _ (by omega)]; exact h2.2.2.2.2.2.1)
        have sC : shC (up I47 (x + 68) 6 ((k : Int) + 1)) (x + 68) V.T (lawC V ((k : Int) + 1)) := by
          obtain ⟨b1, b2, b3, b4, b5⟩ := j2
          exact ⟨by rw [up_off (by omega)]; exact b1, up_eq _ _ _ _, by rw [up_off (by omega)]; exact b3, fun s s0 s1 => by rw [up_off (by omega)]; exact b4 s s0 s1, fun a a0 a1 => ⟨by rw [up_off (by omega)]; exact (b5 a a0 a1).1, fun b b0 b1' => by rw [up_off (by omega)]; exact (b5 a a0 a1).2 b b0 b1'⟩⟩
        refine wk_aload_n (i := 0) (q := 60) dX6_law_59 rfl rfl rfl ?_
        refine wk_getR (fi := 4) (q := 63) dX6_law_60 rfl fl_X6_34 rfl rfl hX.ob hX.r4 ?_
        refine wk_cV0 (q := 66) dX6_law_63 rfl vl_X6_145 ⟨_, _, rfl⟩ hX.t4.1.ob (ct_eveT h3 t1 hC'.1 sC (fun g' g0 g1 => by rw [up_off (by omega)]; exact j4 g' g0 g1) t3.ok (by rw [up_off (by omega)]; exact j3.trans t2.2.2.2.1.symm)) (qRo_m ok_X4_evening (by decide) (Nat.le_refl _) (Nat.le_refl _)) (Nat.le_of_ble_eq_true rfl) (fun I63 L63 R63 hv63 => ?_)
        obtain ⟨rfl, rfl, h4, z1, z2⟩ := hv63
        have hX := h4.1
        have zf : frO I I63 x 167 := fun b i q => by rw [z1 b i (by omega), fy b i (by omega), j1 b i (by omega)]; exact f1 b i q
        have zr : frO R (up R1 (x + 68) 0 o) x 167 := fun b i q => by rw [up_na _ _ _ _ (by omega)]; exact f2 b i q
        refine wk_aload_n (i := 0) (q := 67) dX6_law_66 rfl rfl rfl ?_
        refine wk_getR (fi := 4) (q := 70) dX6_law_67 rfl fl_X6_34 rfl rfl hX.ob hX.r4 ?_
        refine wk_cP0 (q := 73) dX6_law_70 rfl vl_X6_148 ⟨_, _, rfl⟩ hX.t4.1.ob (ct_gladT h4 z2.2.2.1) (qRo_m ok_X4_gladInAll (by decide) (Nat.le_refl _) (Nat.le_refl _)) (Nat.le_of_ble_eq_true rfl) (fun v70 hv70 => ?_)
        rw [← q3] at hv70
        subst hv70
        refine wk_istore (i := 5) (lo' := [(0, _), (1, _), (2, _), (3, _), (4, _), (5, _)]) (q := 75) dX6_law_73 rfl (by decide) rfl ?_
        refine wk_iload (i := 5) (q := 77) dX6_law_75 rfl rfl ?_
        refine wk_iload_n (i := 2) (q := 78) dX6_law_77 rfl rfl rfl ?_
        refine wk_icmp_le (t := 87) (q := 81) dX6_law_78 rfl rfl (by omega) (by omega) (fun hc78 => ?_) (fun hc78 => ?_)
        · refine wk_iinc (lo' := [(0, _), (1, _), (2, _), (3, _), (4, _), (5, _)]) (q := 90) dX6_law_87 rfl rfl (by decide) rfl ?_
          refine wk_goto (t := 27) dX6_law_90 rfl ?_
          refine wk_del (i := 5) (lo' := [(0, _), (1, _), (2, _), (3, _), (4, _)]) rfl ?_
          first
          | exact stay (by omega) _ _ _ h4 zf zr
          | exact take (by omega) _ _ _ h4 zf zr
        · refine wk_iload (i := 5) (q := 83) dX6_law_81 rfl rfl ?_
          refine wk_istore_n (i := 2) (lo' := [(0, _), (1, _), (2, _), (3, _), (4, _), (5, _)]) (q := 84) dX6_law_83 rfl rfl (by decide) rfl ?_
          refine wk_iload (i := 4) (q := 86) dX6_law_84 rfl rfl ?_
          refine wk_istore_n (i := 3) (lo' := [(0, _), (1, _), (2, _), (3, _), (4, _), (5, _)]) (q := 87) dX6_law_86 rfl rfl (by decide) rfl ?_
          refine wk_iinc (lo' := [(0, _), (1, _), (2, _), (3, _), (4, _), (5, _)]) (q := 90) dX6_law_87 rfl rfl (by decide) rfl ?_
          refine wk_goto (t := 27) dX6_law_90 rfl ?_
          refine wk_del (i := 5) (lo' := [(0, _), (1, _), (2, _), (3, _), (4, _)]) rfl ?_
          first
          | exact stay (by omega) _ _ _ h4 zf zr
          | exact take (by omega) _ _ _ h4 zf zr
  refine Ct.of (lo := [(0, _), (1, _)]) ok_X6_law (Nat.le_of_ble_eq_true rfl) rfl ?_
  refine wk_iload_n (i := 1) (q := 1) dX6_law_0 rfl rfl rfl ?_
  refine wk_sP1 (q := 4) dX6_law_1 rfl sl_X6_163 (ct_X6_isOneOfTwo hw) (qRo_m ok_X6_isOneOfTwo (by decide) (Nat.le_refl _) (Nat.le_refl _)) (Nat.le_of_ble_eq_true rfl) (fun v1 hv1 => ?_)
  rcases hv1 with ⟨rfl, hv1⟩ | ⟨rfl, hv1⟩
  · refine wk_if_ne (t := 10) (q := 7) dX6_law_4 rfl rfl (by omega) (fun _ => ?_) (fun hq => absurd hq (by decide))
    refine wk_aload_n (i := 0) (q := 11) dX6_law_10 rfl rfl rfl ?_
    refine wk_cP0 (q := 14) dX6_law_11 rfl vl_X6_138 ⟨_, _, rfl⟩ hX.ob (ct_X6_isTable hX (by omega)) (qRo_m ok_X6_isTable (by decide) (Nat.le_refl _) (Nat.le_refl _)) (Nat.le_of_ble_eq_true rfl) (fun v11 hv11 => ?_)
    rcases hv11 with ⟨rfl, hv11⟩ | ⟨rfl, hv11⟩
    · rw [e7] at hv11
      refine wk_if_ne (t := 20) (q := 17) dX6_law_14 rfl rfl (by omega) (fun _ => ?_) (fun hq => absurd hq (by decide))
      refine wk_iconst (q := 21) dX6_law_20 rfl ?_
      refine wk_istore_n (i := 2) (lo' := [(0, _), (1, _), (2, _)]) (q := 22) dX6_law_21 rfl rfl (by decide) rfl ?_
      refine wk_iconst (q := 23) dX6_law_22 rfl ?_
      refine wk_istore_n (i := 3) (lo' := [(0, _), (1, _), (2, _), (3, _)]) (q := 24) dX6_law_23 rfl rfl (by decide) rfl ?_
      refine wk_iconst (q := 25) dX6_law_24 rfl ?_
      refine wk_istore (i := 4) (lo' := [(0, _), (1, _), (2, _), (3, _), (4, _)]) (q := 27) dX6_law_25 rfl (by decide) rfl ?_
      exact loop hv11 hv1 0 (Nat.zero_le _) _ _ _ hh frO.rf frO.rf
    · rw [e7] at hv11
      refine wk_if_ne (t := 20) (q := 17) dX6_law_14 rfl rfl (by omega) (fun hq => absurd hq (by decide)) (fun _ => ?_)
      refine wk_bipush (q := 19) dX6_law_17 rfl (by decide +kernel) ?_
      refine wk_iret dX6_law_19 rfl ⟨Nat.le_refl _, Nat.le_refl _⟩ rfl ?_
      refine cp_same h rfl ?_
      unfold r_law
      first
        | rw [if_pos hv1]
        | rw [if_neg (fun q => q hv1), if_pos hv11]
  · refine wk_if_ne (t := 10) (q := 7) dX6_law_4 rfl rfl (by omega) (fun hq => absurd hq (by decide)) (fun _ => ?_)
    refine wk_bipush (q := 9) dX6_law_7 rfl (by decide +kernel) ?_
    refine wk_iret dX6_law_9 rfl ⟨Nat.le_refl _, Nat.le_refl _⟩ rfl ?_
    refine cp_same h rfl ?_
    unfold r_law
    first
      | rw [if_pos hv1]
      | rw [if_neg (fun q => q hv1), if_pos hv11]
theorem om_law {m : Nat} {V : VV} {w : Int} (hM : qMod E.2.2 n sh R m) (h : MI I m V) (hw : in32 w) :
    Ct l E 5 mX7_law [.ref m, .int (zI w)] (n, sh, I, L, R) 0 0 (qZ n sh (mpZ m I L R (r_law V w) V)) := by
  have hng := h.1.ng
  have e5 := h.2.2.2.2.2.1.1
  have loop : 0 < V.T.ng → (w = 0 ∨ w = 1) → ∀ k : Nat, k ≤ (V.T.ng - 1).toNat → ∀ I1 : qI, MI I1 m V → frO I I1 m 36 → Wk l E (qmo E 5 n 0 0 (qZ n sh (mpZ m I L R (r_law V w) V))) mX7_law 0 0 29
      [(0, .ref m), (1, .int (zI w)), (2, .int (zI (lawF V k).1)), (3, .int (zI (lawF V k).2)), (4, .int (zI ((k : Int) + 1)))] [] (n, sh, I1, L, R) := by
    intro hp hw2
    obtain ⟨t1, t2, t3⟩ := h.1.tab hp
    have hlf := lawF_in t1 t2
    refine up_ind (V.T.ng - 1).toNat ?_ ?_
    · rintro I1 h1 f1
      have e5' := h1.2.2.2.2.2.1.1
      have q := hlf (V.T.ng - 1).toNat (by omega)
      refine wk_iload (i := 4) (q := 31) dX7_law_29 rfl rfl ?_
      refine wk_aload_n (i := 0) (q := 32) dX7_law_31 rfl rfl rfl ?_
      refine wk_getI (fi := 5) (q := 35) dX7_law_32 rfl fl_X7_125 rfl rfl hM.ob ?_
      refine wk_icmp_ge (t := 74) (q := 38) dX7_law_35 rfl rfl (by omega) (by omega) (fun hc35 => ?_) (fun hc35 => ?_)
      · refine wk_iload_n (i := 1) (q := 75) dX7_law_74 rfl rfl rfl ?_
        refine wk_if_ne (t := 82) (q := 78) dX7_law_75 rfl rfl (by omega) (fun hc75 => ?_) (fun hc75 => ?_)
        · refine wk_iload_n (i := 2) (q := 83) dX7_law_82 rfl rfl rfl ?_
          refine wk_iret dX7_law_83 rfl ⟨Nat.le_refl _, Nat.le_refl _⟩ rfl ?_
          refine ⟨_, _, _, _, rfl, rfl, ?_, h1, f1, rfl, rfl⟩
          unfold r_law
          rw [if_neg (by omega), if_neg (by omega)]
          first
            | rw [if_pos hc75]
            | rw [if_neg hc75]
        · refine wk_iload_n (i := 3) (q := 79) dX7_law_78 rfl rfl rfl ?_
          refine wk_goto (t := 83) dX7_law_79 rfl ?_
          refine wk_iret dX7_law_83 rfl ⟨Nat.le_refl _, Nat.le_refl _⟩ rfl ?_
          refine ⟨_, _, _, _, rfl, rfl, ?_, h1, f1, rfl, rfl⟩
          unfold r_law
          rw [if_neg (by omega), if_neg (by omega)]
          first
            | rw [if_pos hc75]
            | rw [if_neg hc75]
      · omega
    · rintro k hk ih I1 h1 f1
      have e5' := h1.2.2.2.2.2.1.1
      have q := hlf k (by omega)
      have hC' := lawC_ok t2 (v := (k : Int) + 1) (by omega)
      have q2 := gl_sum t1 hC'.1 (la := V.la)
      have q3 : lawG V ((k : Int) + 1) = sumI (evE V.T (lawC V ((k : Int) + 1)) V.la).gl V.T.ng.toNat := rfl
      have q4 := evE_sum hC'.1 (la := V.la)
      rw [← q3] at q4
      have stay : ¬ (lawF V k).1 < lawG V ((k : Int) + 1) → ∀ I2 : qI, MI I2 m V → frO I I2 m 36 → Wk l E (qmo E 5 n 0 0 (qZ n sh (mpZ m I L R (r_law V w) V))) mX7_law 0 0 29
          [(0, .ref m), (1, .int (zI w)), (2, .int (zI (lawF V k).1)), (3, .int (zI (lawF V k).2)), (4, .int (zI ((k : Int) + 1 + 1)))] [] (n, sh, I2, L, R) := by
        intro hq I2 a1 a2
        have := ih I2 a1 a2
        unfold lawF at this
        rw [if_neg hq] at this
        exact this
      have take : (lawF V k).1 < lawG V ((k : Int) + 1) → ∀ I2 : qI, MI I2 m V → frO I I2 m 36 → Wk l E (qmo E 5 n 0 0 (qZ n sh (mpZ m I L R (r_law V w) V))) mX7_law 0 0 29
          [(0, .ref m), (1, .int (zI w)), (2, .int (zI (lawG V ((k : Int) + 1)))), (3, .int (zI ((k : Int) + 1))), (4, .int (zI ((k : Int) + 1 + 1)))] [] (n, sh, I2, L, R) := by
        intro hq I2 a1 a2
        have := ih I2 a1 a2
        unfold lawF at this
        rw [if_pos hq] at this
        exact this
      refine wk_iload (i := 4) (q := 31) dX7_law_29 rfl rfl ?_
      refine wk_aload_n (i := 0) (q := 32) dX7_law_31 rfl rfl rfl ?_
      refine wk_getI (fi := 5) (q := 35) dX7_law_32 rfl fl_X7_125 rfl rfl hM.ob ?_
      refine wk_icmp_ge (t := 74) (q := 38) dX7_law_35 rfl rfl (by omega) (by omega) (fun hc35 => ?_) (fun hc35 => ?_)
      · omega
      · refine wk_aload_n (i := 0) (q := 39) dX7_law_38 rfl rfl rfl ?_
        refine wk_cV0 (q := 42) dX7_law_39 rfl vl_X7_224 ⟨_, _, rfl⟩ hM.ob (ct_lay hM h1 hp) (qRo_m ok_X7_layNow (by decide) (Nat.le_refl _) (Nat.le_refl _)) (Nat.le_of_ble_eq_true rfl) (fun I39 L39 R39 hv39 => ?_)
        obtain ⟨rfl, rfl, h2, j1, j2, j3, j4⟩ := hv39
        refine wk_aload_n (i := 0) (q := 43) dX7_law_42 rfl rfl rfl ?_
        refine wk_iload (i := 4) (q := 45) dX7_law_43 rfl rfl ?_
        refine wk_putI (fi := 30) (q := 48) dX7_law_45 rfl fl_X7_197 fw_7_30 rfl rfl hM.ob ?_
        skip
        have fy : frN I39 (up I39 m 30 ((k : Int) + 1)) m := fun b i q0 q1 => up_off (by omega)
        have h3 := h2.fn fy
        have mC' : mC (up I39 m 30 ((k : Int) + 1)) m V.T (lawC V ((k : Int) + 1)) := by
          obtain ⟨b1, b2, b3, b4, b5⟩ := j2
          exact ⟨by rw [up_off (by omega)]; exact b1, up_eq _ _ _ _, by rw [up_off (by omega)]; exact b3, fun s s0 s1 => by rw [up_off (by omega)]; exact b4 s s0 s1, fun a a0 a1 => ⟨by rw [up_off (by omega)]; exact (b5 a a0 a1).1, fun b b0 b1' w => by rw [up_off (by omega)]; exact (b5 a a0 a1).2 b b0 b1' w⟩⟩
        refine wk_aload_n (i := 0) (q := 49) dX7_law_48 rfl rfl rfl ?_
        refine wk_cV0 (q := 52) dX7_law_49 rfl vl_X7_227 ⟨_, _, rfl⟩ hM.ob (ct_nightC hM t1 hC'.1 h3.2.2.2.2.2.1 mC' (fun g' g0 g1 => by rw [up_off (by omega)]; exact j3 g' g0 g1) t3.ok (by rw [up_off (by omega)]; exact j4.trans (mS_now hC').symm)) (qRo_m ok_X7_goNight (by decide) (Nat.le_refl _) (Nat.le_refl _)) (Nat.le_of_ble_eq_true rfl) (fun I49 L49 R49 hv49 => ?_)
        obtain ⟨rfl, rfl, k1, k2, k3⟩ := hv49
        have h4 := h3.fn k1
        have zf : frO I I49 m 36 := f1.tr (j1.n.tr (fy.tr k1)).o
        refine wk_aload_n (i := 0) (q := 53) dX7_law_52 rfl rfl rfl ?_
        refine wk_cP0 (q := 56) dX7_law_53 rfl vl_X7_230 ⟨_, _, rfl⟩ hM.ob (ct_allV (e := evE V.T (lawC V ((k : Int) + 1)) V.la) hM t1 hC'.1 k2 k3.2.2.2.1) (qRo_m ok_X7_allGlad (by decide) (Nat.le_refl _) (Nat.le_refl _)) (Nat.le_of_ble_eq_true rfl) (fun v53 hv53 => ?_)
        rw [q4] at hv53
        subst hv53
        refine wk_iload_n (i := 2) (q := 57) dX7_law_56 rfl rfl rfl ?_
        refine wk_icmp_le (t := 68) (q := 60) dX7_law_57 rfl rfl (by omega) (by omega) (fun hc57 => ?_) (fun hc57 => ?_)
        · refine wk_iinc (lo' := [(0, _), (1, _), (2, _), (3, _), (4, _)]) (q := 71) dX7_law_68 rfl rfl (by decide) rfl ?_
          refine wk_goto (t := 29) dX7_law_71 rfl ?_
          first
          | exact stay (by omega) _ h4 zf
          | exact take (by omega) _ h4 zf
        · refine wk_aload_n (i := 0) (q := 61) dX7_law_60 rfl rfl rfl ?_
          refine wk_cP0 (q := 64) dX7_law_61 rfl vl_X7_230 ⟨_, _, rfl⟩ hM.ob (ct_allV (e := evE V.T (lawC V ((k : Int) + 1)) V.la) hM t1 hC'.1 k2 k3.2.2.2.1) (qRo_m ok_X7_allGlad (by decide) (Nat.le_refl _) (Nat.le_refl _)) (Nat.le_of_ble_eq_true rfl) (fun v61 hv61 => ?_)
          rw [q4] at hv61
          subst hv61
          refine wk_istore_n (i := 2) (lo' := [(0, _), (1, _), (2, _), (3, _), (4, _)]) (q := 65) dX7_law_64 rfl rfl (by decide) rfl ?_
          refine wk_iload (i := 4) (q := 67) dX7_law_65 rfl rfl ?_
          refine wk_istore_n (i := 3) (lo' := [(0, _), (1, _), (2, _), (3, _), (4, _)]) (q := 68) dX7_law_67 rfl rfl (by decide) rfl ?_
          refine wk_iinc (lo' := [(0, _), (1, _), (2, _), (3, _), (4, _)]) (q := 71) dX7_law_68 rfl rfl (by decide) rfl ?_
          refine wk_goto (t := 29) dX7_law_71 rfl ?_
          first
          | exact stay (by omega) _ h4 zf
          | exact take (by omega) _ h4 zf
  refine Ct.of (lo := [(0, _), (1, _)]) ok_X7_law (Nat.le_of_ble_eq_true rfl) rfl ?_
  refine wk_iload_n (i := 1) (q := 1) dX7_law_0 rfl rfl rfl ?_
  refine wk_iconst (q := 2) dX7_law_1 rfl ?_
  refine wk_iconst (q := 3) dX7_law_2 rfl ?_
  refine wk_sP3 (q := 6) dX7_law_3 rfl sl_X7_121 (ct_X7_within hw (by omega) (by omega)) (qRo_m ok_X7_within (by decide) (Nat.le_refl _) (Nat.le_refl _)) (Nat.le_of_ble_eq_true rfl) (fun v3 hv3 => ?_)
  rcases hv3 with ⟨rfl, hv3⟩ | ⟨rfl, hv3⟩
  · refine wk_if_ne (t := 12) (q := 9) dX7_law_6 rfl rfl (by omega) (fun _ => ?_) (fun hq => absurd hq (by decide))
    refine wk_aload_n (i := 0) (q := 13) dX7_law_12 rfl rfl rfl ?_
    refine wk_cP0 (q := 16) dX7_law_13 rfl vl_X7_190 ⟨_, _, rfl⟩ hM.ob (ct_X7_isTable hM (by omega)) (qRo_m ok_X7_isTable (by decide) (Nat.le_refl _) (Nat.le_refl _)) (Nat.le_of_ble_eq_true rfl) (fun v13 hv13 => ?_)
    rcases hv13 with ⟨rfl, hv13⟩ | ⟨rfl, hv13⟩
    · rw [e5] at hv13
      refine wk_if_ne (t := 22) (q := 19) dX7_law_16 rfl rfl (by omega) (fun _ => ?_) (fun hq => absurd hq (by decide))
      refine wk_iconst (q := 23) dX7_law_22 rfl ?_
      refine wk_istore_n (i := 2) (lo' := [(0, _), (1, _), (2, _)]) (q := 24) dX7_law_23 rfl rfl (by decide) rfl ?_
      refine wk_iconst (q := 25) dX7_law_24 rfl ?_
      refine wk_istore_n (i := 3) (lo' := [(0, _), (1, _), (2, _), (3, _)]) (q := 26) dX7_law_25 rfl rfl (by decide) rfl ?_
      refine wk_iconst (q := 27) dX7_law_26 rfl ?_
      refine wk_istore (i := 4) (lo' := [(0, _), (1, _), (2, _), (3, _), (4, _)]) (q := 29) dX7_law_27 rfl (by decide) rfl ?_
      exact loop hv13 (by omega) 0 (Nat.zero_le _) _ h frO.rf
    · rw [e5] at hv13
      refine wk_if_ne (t := 22) (q := 19) dX7_law_16 rfl rfl (by omega) (fun hq => absurd hq (by decide)) (fun _ => ?_)
      refine wk_bipush (q := 21) dX7_law_19 rfl (by decide +kernel) ?_
      refine wk_iret dX7_law_21 rfl ⟨Nat.le_refl _, Nat.le_refl _⟩ rfl ?_
      refine mp_same h rfl ?_
      unfold r_law
      first
        | rw [if_pos (by omega)]
        | rw [if_neg (by omega), if_pos hv13]
  · refine wk_if_ne (t := 12) (q := 9) dX7_law_6 rfl rfl (by omega) (fun hq => absurd hq (by decide)) (fun _ => ?_)
    refine wk_bipush (q := 11) dX7_law_9 rfl (by decide +kernel) ?_
    refine wk_iret dX7_law_11 rfl ⟨Nat.le_refl _, Nat.le_refl _⟩ rfl ?_
    refine mp_same h rfl ?_
    unfold r_law
    first
      | rw [if_pos (by omega)]
      | rw [if_neg (by omega), if_pos hv13]
end LAW
