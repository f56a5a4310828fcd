/-! TABLE, the class: a table begins; table -/
theorem told_upx {b n : Nat} {sh : qSh} {R : qR} {o x z : Nat} {i : Int} {v : Nat} (h : qTold b n sh R o) (hx : isC b n sh x 10 z) : qTold b n sh (up R x i v) o :=
  told_up h (fun e => by subst e; have := h.ob.kd hx; omega) (fun e => by subst e; have := h.s5.kd hx; omega)
theorem tabS_upx {b n : Nat} {sh : qSh} {R : qR} {t x : Nat} {i : Int} {v : Nat} (h : qTabS b n sh R t) (hx : x < t) : qTabS b n sh (up R x i v) t :=
  ⟨h.1, h.2.1, fun p hp => by rw [up_na _ _ _ _ (by omega)]; exact h.2.2 p hp⟩
theorem tab_upx {b n : Nat} {sh : qSh} {R : qR} {t o x z : Nat} {i : Int} {v : Nat} (h : qTab b n sh R t o) (hx : isC b n sh x 10 z) (hlt : x < t) : qTab b n sh (up R x i v) t o :=
  ⟨tabS_upx h.1 hlt, ⟨by rw [up_na _ _ _ _ (by omega)]; exact h.2.1.1, h.2.1.2⟩, told_upx h.2.2 hx⟩
theorem qRA.up1 {b n : Nat} {sh : qSh} {R : qR} {x o d u1 u2 u3 v : Nat} (h : qRA b n sh R x o d u1 u2 u3) (hv : qTold b n sh R v) : qRA b n sh (up R x 1 v) x v d u1 u2 u3 := by
  obtain ⟨a1, a2, a3, a4, a5, a6, a7, a8, a9, b1, b2, b3, b4, b5, b6, b7, b8, b9, c1, c2, c3, c4, c5⟩ := h
  have f : ∀ i : Int, i ≠ 1 → up R x 1 v x i = R x i := fun i q => up_ni _ _ q
  exact ⟨a1, a2, a3, by rw [f _ (by omega)]; exact a4, ⟨up_eq _ _ _ _, by have := hv.1; omega⟩, told_upx hv a2, by rw [f _ (by omega)]; exact a7, told_upx a8 a2, by rw [f _ (by omega)]; exact a9, tab_upx b1 a2 (by omega), by rw [f _ (by omega)]; exact b2, tab_upx b3 a2 (by omega), by rw [f _ (by omega)]; exact b4, tab_upx b5 a2 (by omega), by rw [f _ (by omega)]; exact b6, ever_up b7 (by omega), by rw [f _ (by omega)]; exact b8, ever_up b9 (by omega), by rw [f _ (by omega)]; exact c1, best_up c2 (by omega), by rw [f _ (by omega)]; exact c3, seat_up c4 (by omega), fun i hi => ⟨by rw [up_na _ _ _ _ (by omega)]; exact (c5 i hi).1, sheet_up (c5 i hi).2 (by omega)⟩⟩
theorem qRA.up2 {b n : Nat} {sh : qSh} {R : qR} {x o d u1 u2 u3 v : Nat} (h : qRA b n sh R x o d u1 u2 u3) (hv : qTold b n sh R v) : qRA b n sh (up R x 2 v) x o v u1 u2 u3 := by
  obtain ⟨a1, a2, a3, a4, a5, a6, a7, a8, a9, b1, b2, b3, b4, b5, b6, b7, b8, b9, c1, c2, c3, c4, c5⟩ := h
  have f : ∀ i : Int, i ≠ 2 → up R x 2 v x i = R x i := fun i q => up_ni _ _ q
  exact ⟨a1, a2, a3, by rw [f _ (by omega)]; exact a4, by rw [f _ (by omega)]; exact a5, told_upx a6 a2, ⟨up_eq _ _ _ _, by have := hv.1; omega⟩, told_upx hv a2, by rw [f _ (by omega)]; exact a9, tab_upx b1 a2 (by omega), by rw [f _ (by omega)]; exact b2, tab_upx b3 a2 (by omega), by rw [f _ (by omega)]; exact b4, tab_upx b5 a2 (by omega), by rw [f _ (by omega)]; exact b6, ever_up b7 (by omega), by rw [f _ (by omega)]; exact b8, ever_up b9 (by omega), by rw [f _ (by omega)]; exact c1, best_up c2 (by omega), by rw [f _ (by omega)]; exact c3, seat_up c4 (by omega), fun i hi => ⟨by rw [up_na _ _ _ _ (by omega)]; exact (c5 i hi).1, sheet_up (c5 i hi).2 (by omega)⟩⟩
/-- now takes a text -/
theorem qRA.upN {b n : Nat} {sh : qSh} {R : qR} {x o d u1 u2 u3 v : Nat} (h : qRA b n sh R x o d u1 u2 u3) (hv : qTold b n sh R v) : qRA b n sh (up R (x + 30) 0 v) x o d v u2 u3 := by
  obtain ⟨a1, a2, a3, a4, a5, a6, a7, a8, a9, b1, b2, b3, b4, b5, b6, b7, b8, b9, c1, c2, c3, c4, c5⟩ := h
  have ob := b1.1.ob
  have f : ∀ (i : Int) (c : Nat), c ≠ x + 30 → up R (x + 30) 0 v c i = R c i := fun i c q => up_na _ _ _ _ q
  exact ⟨a1, a2, a3, by rw [f _ _ (by omega)]; exact a4, by rw [f _ _ (by omega)]; exact a5, told_upT a6 ob, by rw [f _ _ (by omega)]; exact a7, told_upT a8 ob, by rw [f _ _ (by omega)]; exact a9, tab_up b1 hv, by rw [f _ _ (by omega)]; exact b2, tab_upo b3 ob (by omega), by rw [f _ _ (by omega)]; exact b4, tab_upo b5 ob (by omega), by rw [f _ _ (by omega)]; exact b6, ever_up b7 (by omega), by rw [f _ _ (by omega)]; exact b8, ever_up b9 (by omega), by rw [f _ _ (by omega)]; exact c1, best_up c2 (by omega), by rw [f _ _ (by omega)]; exact c3, seat_up c4 (by omega), fun i hi => ⟨by rw [f _ _ (by omega)]; exact (c5 i hi).1, sheet_up (c5 i hi).2 (by omega)⟩⟩
/-- the draft is written, and the fault -/
theorem CI0.dra {b n : Nat} {sh : qSh} {x : Nat} {I L I' : qI} {R : qR} {V V' : VV} {o d u1 u2 u3 : Nat} (h : CI0 b n sh x I L R V o d u1 u2 u3) (hV : V'.T = V.T ∧ V'.C = V.C ∧ V'.la = V.la ∧ V'.th = V.th ∧ V'.so = V.so ∧ V'.sl = V.sl ∧ V'.ce = V.ce) (hV2 : V'.ni = V.ni ∧ V'.tr = V.tr) (hI : ∀ c i, ¬ (c = x ∧ i = 12) → ¬ (d ≤ c ∧ c < d + 14) → I' c i = I c i) (e12 : I' x 12 = V'.fa) : CI0 b n sh x I' L R V' o d u1 u2 u3 := by
  obtain ⟨v1, v2, v3, v4⟩ := hV
  obtain ⟨hX, hod, hok, h10, h11, h12, hS, ⟨hT1, hT2⟩, hB, hC⟩ := h
  have hng := hok.ng
  refine ⟨hX, hod, ⟨VV.shok.cg hok.1 v4, by rw [v1, v2, v3]; exact hok.2⟩, by rw [hI _ _ (by omega) (by omega), hV2.1]; exact h10, by rw [hI _ _ (by omega) (by omega), hV2.2]; exact h11, e12, hS.cg v4 (fun b i q1 q2 => hI b i (by omega) (by omega)), ⟨by rw [v1]; exact hT1.cg hng.2.1 (fun b i q1 q2 => hI b i (by omega) (by omega)), ?_⟩, ?_, ?_⟩
  · rw [v1, v2, v3]
    rcases hT2 with ⟨q1, q2, q3⟩ | ⟨q1, q2, q3, q4, q5⟩
    · exact Or.inl ⟨q1, by rw [hI _ _ (by omega) (by omega)]; exact q2, by rw [hI _ _ (by omega) (by omega)]; exact q3⟩
    · exact Or.inr ⟨q1, q2, q3.cg hng.2.1 (fun c i q => hI c i (by omega) (by omega)), by rw [hI _ _ (by omega) (by omega)]; exact q4, fun g g0 g1 => by rw [hI _ _ (by omega) (by omega)]; exact q5 g g0 g1⟩
  · rw [v1, v2]
    unfold caB at hB ⊢
    rw [hI _ _ (by omega) (by omega)]
    exact hB
  · rw [v1, v2]
    unfold caS at hC ⊢
    rw [hI _ _ (by omega) (by omega)]
    rcases hC with z | ⟨z1, z2, z3⟩
    · exact Or.inl z
    · exact Or.inr ⟨z1, z2, fun aim a0 a1 => ⟨by rw [hI _ _ (by omega) (by omega)]; exact (z3 aim a0 a1).1, fun s s0 s1 => by rw [hI _ _ (by omega) (by omega)]; exact (z3 aim a0 a1).2 s s0 s1⟩⟩
section BEGIN
variable {l : Launch} {E : qEv} {n : Nat} {sh : qSh} {I L : qI} {R : qR}
def bgP (I I' : qI) (t : Nat) (T : TT) : Prop := (∀ b i, ¬ (t ≤ b ∧ b < t + 38) → I' b i = I b i) ∧ shC I' t T (rdC T) ∧ I' t 8 = -1 ∧ ∀ g, 0 ≤ g → g < T.ng → I' (t + 17) g = -8
theorem ct_X4_begin {t o o' : Nat} {T : TT} (hT : qTab E.2.2 n sh R t o') (hO : qTold E.2.2 n sh R o) (hot : o + 14 ≤ t) (hok : T.ok) (hsT : shT I o T) :
    Ct l E 2 mX4_begin [.ref t, .ref o] (n, sh, I, L, R) 0 0 (qV n sh (fun I' L' R' => L' = L ∧ R' = up R t 0 o ∧ bgP I I' t T)) := by
  have hTn := tab_up hT hO
  have hOn : qTold E.2.2 n sh (up R t 0 o) o := told_upT hO hT.1.ob
  have hng := hok.2.1
  have hng0 := hok.1
  have hnd := hok.2.2.2.1
  have loop : ∀ k : Nat, k ≤ T.ng.toNat → ∀ I1 : qI, (∀ b i, ¬ (t ≤ b ∧ b < t + 38) → I1 b i = I b i) → (I1 t 5 = T.ng ∧ I1 t 6 = 1 ∧ I1 t 7 = 1 ∧ I1 t 8 = -1) → (∀ g : Int, 0 ≤ g → g < k → I1 (t + 15) g = g ∧ I1 (t + 16) g = T.kd g ∧ ∀ d : Int, 0 ≤ d → d < T.nd → I1 (t + 19 + g.toNat) d = T.wo g d) → Wk l E (qmo E 2 n 0 0 (qV n sh (fun I' L' R' => L' = L ∧ R' = up R t 0 o ∧ bgP I I' t T))) mX4_begin 0 0 30
      [(0, .ref t), (1, .ref o), (2, .int (zI (k : Int)))] [] (n, sh, I1, L, up R t 0 o) := by
    refine up_ind T.ng.toNat ?_ ?_
    · rintro I1 f1 ⟨f5, f6, f7, f8⟩ f2
      refine wk_iload_n (i := 2) (q := 31) dX4_begin_30 rfl rfl rfl ?_
      refine wk_aload_n (i := 0) (q := 32) dX4_begin_31 rfl rfl rfl ?_
      refine wk_getI (fi := 5) (q := 35) dX4_begin_32 rfl fl_X4_52 rfl rfl hTn.1.ob ?_
      refine wk_icmp_ge (t := 82) (q := 38) dX4_begin_35 rfl rfl (by omega) (by omega) (fun hc35 => ?_) (fun hc35 => ?_)
      · refine wk_aload_n (i := 0) (q := 83) dX4_begin_82 rfl rfl rfl ?_
        refine wk_cV0 (q := 86) dX4_begin_83 rfl vl_X4_71 ⟨_, _, rfl⟩ hTn.1.ob (ct_X4_clearMemory hTn) (qRo_m ok_X4_clearMemory (by decide) (Nat.le_refl _) (Nat.le_refl _)) (Nat.le_of_ble_eq_true rfl) (fun I83 L83 R83 hv83 => ?_)
        obtain ⟨rfl, rfl, rfl⟩ := hv83
        refine wk_ret dX4_begin_86 rfl ⟨Nat.le_refl _, Nat.le_refl _⟩ rfl ?_
        have q : ∀ b i, b ≠ t + 17 → fillI I1 (t + 17) 7 (-8) b i = I1 b i := fun b i z => fillI_ne _ _ _ z
        refine ⟨_, _, _, rfl, rfl, rfl, rfl, fun b i z => by rw [q _ _ (by omega)]; exact f1 b i z, ⟨by rw [q _ _ (by omega)]; exact f5, by rw [q _ _ (by omega)]; exact f6, by rw [q _ _ (by omega)]; exact f7, fun s s0 s1 => by rw [q _ _ (by omega)]; exact (f2 s s0 (by have s1' : s < T.ng := s1; omega)).1, fun g g0 g1 => ⟨by rw [q _ _ (by omega)]; exact (f2 g g0 (by omega)).2.1, fun d d0 d1 => by rw [q _ _ (by omega)]; exact (f2 g g0 (by omega)).2.2 d d0 d1⟩⟩, by rw [q _ _ (by omega)]; exact f8, fun g g0 g1 => fillI_in (by omega)⟩
      · omega
    · rintro k hk ih I1 f1 ⟨f5, f6, f7, f8⟩ f2
      have hs1 : shT I1 o T := hsT.cg hng (fun b i q1 q2 => f1 b i (by omega))
      obtain ⟨z1, z2, z3, z4⟩ := hs1.2.2.2 (k : Int) (by omega) (by omega)
      refine wk_iload_n (i := 2) (q := 31) dX4_begin_30 rfl rfl rfl ?_
      refine wk_aload_n (i := 0) (q := 32) dX4_begin_31 rfl rfl rfl ?_
      refine wk_getI (fi := 5) (q := 35) dX4_begin_32 rfl fl_X4_52 rfl rfl hTn.1.ob ?_
      refine wk_icmp_ge (t := 82) (q := 38) dX4_begin_35 rfl rfl (by omega) (by omega) (fun hc35 => ?_) (fun hc35 => ?_)
      · omega
      · refine wk_aload_n (i := 0) (q := 39) dX4_begin_38 rfl rfl rfl ?_
        refine wk_getR (fi := 1) (q := 42) dX4_begin_39 rfl fl_X4_18 rfl rfl hTn.1.ob hTn.1.r1 ?_
        refine wk_iload_n (i := 2) (q := 43) dX4_begin_42 rfl rfl rfl ?_
        refine wk_iload_n (i := 2) (q := 44) dX4_begin_43 rfl rfl rfl ?_
        refine wk_iast (q := 45) dX4_begin_44 rfl hTn.1.s1 (by omega) ?_
        refine wk_aload_n (i := 0) (q := 46) dX4_begin_45 rfl rfl rfl ?_
        refine wk_getR (fi := 2) (q := 49) dX4_begin_46 rfl fl_X4_22 rfl rfl hTn.1.ob hTn.1.r2 ?_
        refine wk_iload_n (i := 2) (q := 50) dX4_begin_49 rfl rfl rfl ?_
        refine wk_aload_n (i := 1) (q := 51) dX4_begin_50 rfl rfl rfl ?_
        refine wk_getR (fi := 2) (q := 54) dX4_begin_51 rfl fl_X4_61 rfl rfl hOn.ob hOn.r2 ?_
        refine wk_iload_n (i := 2) (q := 55) dX4_begin_54 rfl rfl rfl ?_
        refine wk_iald (q := 56) dX4_begin_55 rfl hOn.s2 (by omega) ?_
        refine wk_iast (q := 57) dX4_begin_56 rfl hTn.1.s2 (by omega) ?_
        refine wk_aload_n (i := 1) (q := 58) dX4_begin_57 rfl rfl rfl ?_
        refine wk_getR (fi := 5) (q := 61) dX4_begin_58 rfl fl_X4_62 rfl rfl hOn.ob hOn.r5 ?_
        refine wk_iload_n (i := 2) (q := 62) dX4_begin_61 rfl rfl rfl ?_
        refine wk_aald2 (q := 63) dX4_begin_62 rfl hOn.s5 (by omega) (hOn.w5 (by omega)) ?_
        refine wk_iconst (q := 64) dX4_begin_63 rfl ?_
        refine wk_aload_n (i := 0) (q := 65) dX4_begin_64 rfl rfl rfl ?_
        refine wk_getR (fi := 4) (q := 68) dX4_begin_65 rfl fl_X4_30 rfl rfl hTn.1.ob hTn.1.r4 ?_
        refine wk_iload_n (i := 2) (q := 69) dX4_begin_68 rfl rfl rfl ?_
        refine wk_aald2 (q := 70) dX4_begin_69 rfl hTn.1.s4 (by omega) (hTn.1.w4 (by omega)) ?_
        refine wk_iconst (q := 71) dX4_begin_70 rfl ?_
        refine wk_bipush (q := 73) dX4_begin_71 rfl (by decide +kernel) ?_
        refine wk_copy (q := 76) dX4_begin_73 rfl w_ac_4 (hOn.v5 (by omega)) (hTn.1.v4 (by omega)) (by omega) (by omega) (by omega) (Nat.le_of_ble_eq_true rfl) (Nat.le_of_ble_eq_true rfl) ?_
        refine wk_iinc (lo' := [(0, _), (1, _), (2, _)]) (q := 79) dX4_begin_76 rfl rfl (by decide) rfl ?_
        refine wk_goto (t := 30) dX4_begin_79 rfl ?_
        refine ih _ (fun b i q => by rw [cpI_ne (by omega), up_na _ _ _ _ (by omega), up_na _ _ _ _ (by omega)]; exact f1 b i q) ⟨by rw [cpI_ne (by omega), up_na _ _ _ _ (by omega), up_na _ _ _ _ (by omega)]; exact f5, by rw [cpI_ne (by omega), up_na _ _ _ _ (by omega), up_na _ _ _ _ (by omega)]; exact f6, by rw [cpI_ne (by omega), up_na _ _ _ _ (by omega), up_na _ _ _ _ (by omega)]; exact f7, by rw [cpI_ne (by omega), up_na _ _ _ _ (by omega), up_na _ _ _ _ (by omega)]; exact f8⟩ (fun g g0 g1 => ?_)
        rw [cpI_ne (by omega), cpI_ne (by omega), up_na _ _ _ _ (show t + 15 ≠ t + 16 by omega)]
        by_cases q : g = (k : Int)
        · subst q
          refine ⟨up_eq _ _ _ _, ?_, fun d d0 d1 => ?_⟩
          · rw [up_eq, up_na _ _ _ _ (by omega)]
            exact z1
          · rw [cpI_in (by omega), up_na _ _ _ _ (by omega), up_na _ _ _ _ (by omega), show (0 : Int) + (d - 0) = d by omega]
            exact z4 d d0 d1
        · obtain ⟨y1, y2, y3⟩ := f2 g g0 (by omega)
          refine ⟨by rw [up_ni _ _ q]; exact y1, by rw [up_ni _ _ q, up_na _ _ _ _ (by omega)]; exact y2, fun d d0 d1 => ?_⟩
          rw [cpI_ne (by omega), up_na _ _ _ _ (by omega), up_na _ _ _ _ (by omega)]
          exact y3 d d0 d1
  refine Ct.of (lo := [(0, _), (1, _)]) ok_X4_begin (Nat.le_of_ble_eq_true rfl) rfl ?_
  refine wk_aload_n (i := 0) (q := 1) dX4_begin_0 rfl rfl rfl ?_
  refine wk_aload_n (i := 1) (q := 2) dX4_begin_1 rfl rfl rfl ?_
  refine wk_putR (fi := 0) (q := 5) dX4_begin_2 rfl fl_X4_12 fw_4_0 rfl (by have := hO.1; omega) rfl hT.1.ob ?_
  skip
  refine wk_aload_n (i := 0) (q := 6) dX4_begin_5 rfl rfl rfl ?_
  refine wk_aload_n (i := 1) (q := 7) dX4_begin_6 rfl rfl rfl ?_
  refine wk_getI (fi := 7) (q := 10) dX4_begin_7 rfl fl_X4_49 rfl rfl hOn.ob ?_
  refine wk_putI (fi := 5) (q := 13) dX4_begin_10 rfl fl_X4_52 fw_4_5 rfl rfl hTn.1.ob ?_
  refine wk_aload_n (i := 0) (q := 14) dX4_begin_13 rfl rfl rfl ?_
  refine wk_iconst (q := 15) dX4_begin_14 rfl ?_
  refine wk_putI (fi := 6) (q := 18) dX4_begin_15 rfl fl_X4_55 fw_4_6 rfl rfl hTn.1.ob ?_
  refine wk_aload_n (i := 0) (q := 19) dX4_begin_18 rfl rfl rfl ?_
  refine wk_iconst (q := 20) dX4_begin_19 rfl ?_
  refine wk_putI (fi := 7) (q := 23) dX4_begin_20 rfl fl_X4_58 fw_4_7 rfl rfl hTn.1.ob ?_
  refine wk_aload_n (i := 0) (q := 24) dX4_begin_23 rfl rfl rfl ?_
  refine wk_iconst (q := 25) dX4_begin_24 rfl ?_
  refine wk_putI (fi := 8) (q := 28) dX4_begin_25 rfl fl_X4_33 fw_4_8 rfl rfl hTn.1.ob ?_
  refine wk_iconst (q := 29) dX4_begin_28 rfl ?_
  refine wk_istore_n (i := 2) (lo' := [(0, _), (1, _), (2, _)]) (q := 30) dX4_begin_29 rfl rfl (by decide) rfl ?_
  refine loop 0 (Nat.zero_le _) _ (fun b i q => by rw [up_na _ _ _ _ (by omega), up_na _ _ _ _ (by omega), up_na _ _ _ _ (by omega), up_na _ _ _ _ (by omega)]) ⟨?_, ?_, ?_, up_eq _ _ _ _⟩ (fun g g0 g1 => by omega)
  · rw [up_ni _ _ (by omega), up_ni _ _ (by omega), up_ni _ _ (by omega), up_eq]
    exact hsT.2.1
  · rw [up_ni _ _ (by omega), up_ni _ _ (by omega), up_eq]
  · rw [up_ni _ _ (by omega), up_eq]
theorem oc_table {x : Nat} {V : VV} {k so i z : Int} (h : CI E.2.2 n sh x I L R V) (hk : in32 k) (hso : in32 so) (hi : in32 i) (hz : in32 z) :
    Ct l E 5 mX6_table [.ref x, .int (zI k), .int (zI so), .int (zI i), .int (zI z)] (n, sh, I, L, R) 0 0 (qZ n sh (cpZ E.2.2 n sh x I R (r_table V k so i z) (s_table V k so i z))) := by
  obtain ⟨o, dr, w1, w2, w3, hh⟩ := id h
  obtain ⟨hX, hod, hok, h10, h11, h12, hS, hT, hB, hC⟩ := id hh
  have hng := hok.ng
  have hrin : in32 (refR V k so i z) := by
    unfold refR
    repeat (first | split | omega)
  have fin : refR V k so i z = 0 → (rdR (V.ce k) i (i + z)).1 = 1 → ∀ I2 : qI, (∀ b j, ¬ (b = x ∧ j = 12) → ¬ (dr ≤ b ∧ b < dr + 14) → I2 b j = I b j) → I2 x 12 = 0 → shT I2 dr (rdT (V.ce k) i (i + z)) → Wk l E (qmo E 5 n 0 0 (qZ n sh (cpZ E.2.2 n sh x I R (r_table V k so i z) (s_table V k so i z)))) mX6_table 0 0 49
      [(0, .ref x), (1, .int (zI k)), (2, .int (zI so)), (3, .int (zI i)), (4, .int (zI z)), (5, .int (zI 0))] [] (n, sh, I2, L, R) := by
    intro hr hrd I2 f1 f2 f3
    have tok := rdT_ok hrd
    have hp := tok.1
    have hp2 := tok.2.1
    have hX1 := hX.up1 hX.o2
    have hX2 := hX1.up2 (v := o) (told_upx hX.o1 hX.ob)
    have hX3 := hX2.upN hX2.o1
    have hrs : r_table V k so i z = (rdT (V.ce k) i (i + z)).ng := by
      unfold r_table
      rw [if_neg (by omega), if_pos hrd]
      rfl
    have hss : s_table V k so i z = takT (V.setFa 0) (rdT (V.ce k) i (i + z)) := by
      unfold s_table
      rw [if_neg (by omega), if_pos hrd]
    rw [hrs, hss]
    have hO := hX.o1
    refine wk_aload_n (i := 0) (q := 50) dX6_table_49 rfl rfl rfl ?_
    refine wk_getR (fi := 1) (q := 53) dX6_table_50 rfl fl_X6_20 rfl rfl hX.ob hX.r1 ?_
    refine wk_astore (i := 6) (lo' := [(0, _), (1, _), (2, _), (3, _), (4, _), (5, _), (6, _)]) (q := 55) dX6_table_53 rfl (by decide) rfl ?_
    refine wk_aload_n (i := 0) (q := 56) dX6_table_55 rfl rfl rfl ?_
    refine wk_aload_n (i := 0) (q := 57) dX6_table_56 rfl rfl rfl ?_
    refine wk_getR (fi := 2) (q := 60) dX6_table_57 rfl fl_X6_24 rfl rfl hX.ob hX.r2 ?_
    refine wk_putR (fi := 1) (q := 63) dX6_table_60 rfl fl_X6_20 fw_6_1 rfl (by have := hX.o2.1; omega) rfl hX.ob ?_
    skip
    refine wk_aload_n (i := 0) (q := 64) dX6_table_63 rfl rfl rfl ?_
    refine wk_aload (i := 6) (q := 66) dX6_table_64 rfl rfl ?_
    refine wk_putR (fi := 2) (q := 69) dX6_table_66 rfl fl_X6_24 fw_6_2 rfl (by have := hX.o1.1; omega) rfl hX1.ob ?_
    skip
    refine wk_aload_n (i := 0) (q := 70) dX6_table_69 rfl rfl rfl ?_
    refine wk_getR (fi := 3) (q := 73) dX6_table_70 rfl fl_X6_30 rfl rfl hX2.ob hX2.r3 ?_
    refine wk_aload_n (i := 0) (q := 74) dX6_table_73 rfl rfl rfl ?_
    refine wk_getR (fi := 1) (q := 77) dX6_table_74 rfl fl_X6_20 rfl rfl hX2.ob hX2.r1 ?_
    refine wk_cV1 (q := 80) dX6_table_77 rfl vl_X6_77 ⟨_, _, rfl⟩ hX2.t3.1.ob (ct_X4_begin hX2.t3 hX2.o1 (by omega) tok f3) (qRo_m ok_X4_begin (by decide) (Nat.le_refl _) (Nat.le_refl _)) (Nat.le_of_ble_eq_true rfl) (fun I77 L77 R77 hv77 => ?_)
    obtain ⟨rfl, rfl, g1, g2, g3, g4⟩ := hv77
    skip
    have g0 : ∀ b j, ¬ (b = x ∧ j = 12) → ¬ (dr ≤ b ∧ b < dr + 14) → ¬ (x + 30 ≤ b ∧ b < x + 68) → I77 b j = I b j := fun b j q1 q2 q3 => (g1 b j (by omega)).trans (f1 b j q1 q2)
    have s3 : shT I77 dr (rdT (V.ce k) i (i + z)) := f3.cg hp2 (fun b j q1 q2 => g1 b j (by omega))
    have e7 := s3.2.1
    refine wk_aload_n (i := 0) (q := 81) dX6_table_80 rfl rfl rfl ?_
    refine wk_iconst (q := 82) dX6_table_81 rfl ?_
    refine wk_putI (fi := 10) (q := 85) dX6_table_82 rfl fl_X6_81 fw_6_10 rfl rfl hX3.ob ?_
    refine wk_aload_n (i := 0) (q := 86) dX6_table_85 rfl rfl rfl ?_
    refine wk_cV0 (q := 89) dX6_table_86 rfl vl_X6_85 ⟨_, _, rfl⟩ hX3.ob (ct_X6_unsettle hX3) (qRo_m ok_X6_unsettle (by decide) (Nat.le_refl _) (Nat.le_refl _)) (Nat.le_of_ble_eq_true rfl) (fun I86 L86 R86 hv86 => ?_)
    obtain ⟨rfl, rfl, rfl⟩ := hv86
    have m0 : ∀ b j, ¬ (b = x ∧ j = 10) → ¬ (b = x + 150 ∧ j = 0) → ¬ (b = x + 154 ∧ j = 0) → up (up (up I77 x 10 0) (x + 150) 0 0) (x + 154) 0 0 b j = I77 b j := fun b j q1 q2 q3 => by rw [un_ne q2 q3, up_off q1]
    refine wk_aload_n (i := 0) (q := 90) dX6_table_89 rfl rfl rfl ?_
    refine wk_getR (fi := 1) (q := 93) dX6_table_90 rfl fl_X6_20 rfl rfl hX3.ob hX3.r1 ?_
    refine wk_getI (fi := 7) (q := 96) dX6_table_93 rfl fl_X6_88 rfl rfl hX3.o1.ob ?_
    rw [m0 _ _ (by omega) (by omega) (by omega), e7]
    refine wk_iret dX6_table_96 rfl ⟨Nat.le_refl _, Nat.le_refl _⟩ rfl ?_
    have ed : (takT (V.setFa 0) (rdT (V.ce k) i (i + z))).T = rdT (V.ce k) i (i + z) := rfl
    refine ⟨_, _, _, _, rfl, rfl, rfl, CI0.ci (o := dr) (d := o) (u1 := dr) (u2 := w2) (u3 := w3) ⟨hX3, by omega, ⟨hok.1, Or.inr ⟨tok, rdC_ok tok, rdLA tok⟩⟩, ?_, ?_, ?_, ?_, ⟨?_, Or.inr ⟨?_, rfl, ?_, ?_, fun g g0' g1' => ?_⟩⟩, Or.inl un_b, Or.inl (up_eq _ _ _ _)⟩, fun b j q => ?_, fun b j q => ?_⟩
    · rw [un_ne (by omega) (by omega), up_eq]
      rfl
    · rw [m0 _ _ (by omega) (by omega) (by omega), g0 _ _ (by omega) (by omega) (by omega)]
      exact h11
    · rw [m0 _ _ (by omega) (by omega) (by omega), g1 _ _ (by omega)]
      exact f2
    · exact hS.cg ⟨rfl, rfl, rfl, rfl⟩ (fun b j q1 q2 => by rw [m0 _ _ (by omega) (by omega) (by omega)]; exact g0 b j (by omega) (by omega) (by omega))
    · exact s3.cg hp2 (fun b j q1 q2 => m0 b j (by omega) (by omega) (by omega))
    · show 0 < (rdT (V.ce k) i (i + z)).ng
      omega
    · exact g2.cg hp2 (fun b j q => m0 b j (by omega) (by omega) (by omega))
    · rw [m0 _ _ (by omega) (by omega) (by omega)]
      exact g3
    · rw [m0 _ _ (by omega) (by omega) (by omega)]
      exact g4 g g0' g1'
    · rw [m0 _ _ (by omega) (by omega) (by omega)]
      exact g0 b j (by omega) (by omega) (by omega)
    · rw [up_na _ _ _ _ (by omega), up_na _ _ _ _ (by omega), up_na _ _ _ _ (by omega)]
  refine Ct.of (lo := [(0, _), (1, _), (2, _), (3, _), (4, _)]) ok_X6_table (Nat.le_of_ble_eq_true rfl) rfl ?_
  refine wk_aload_n (i := 0) (q := 1) dX6_table_0 rfl rfl rfl ?_
  refine wk_iload_n (i := 1) (q := 2) dX6_table_1 rfl rfl rfl ?_
  refine wk_iload_n (i := 2) (q := 3) dX6_table_2 rfl rfl rfl ?_
  refine wk_iload_n (i := 3) (q := 4) dX6_table_3 rfl rfl rfl ?_
  refine wk_iload (i := 4) (q := 6) dX6_table_4 rfl rfl ?_
  refine wk_cZ4 (q := 9) dX6_table_6 rfl vl_X6_65 ⟨_, _, rfl⟩ hX.ob (ct_X6_refusalOfRow hX hS hok.1 hk hso hi hz) (qRo_m ok_X6_refusalOfRow (by decide) (Nat.le_refl _) (Nat.le_refl _)) (Nat.le_of_ble_eq_true rfl) (fun v6 I6 L6 R6 hv6 => ?_)
  obtain ⟨rfl, f1, f2, rfl, rfl⟩ := hv6
  refine wk_istore (i := 5) (lo' := [(0, _), (1, _), (2, _), (3, _), (4, _), (5, _)]) (q := 11) dX6_table_9 rfl (by decide) rfl ?_
  refine wk_iload (i := 5) (q := 13) dX6_table_11 rfl rfl ?_
  refine wk_if_eq (t := 19) (q := 16) dX6_table_13 rfl rfl (by omega) (fun hc13 => ?_) (fun hc13 => ?_)
  · have r0 := refR_0 (show refR V k so i z = 0 by omega)
    have sk := hS k r0.1.1 r0.1.2
    have sv := hok.1 k r0.1.1 r0.1.2
    have rf : refF V k so i z = 0 := by
      have q := refRF (V := V) (k := k) (so := so) (i := i) (z := z) r0.1 (by omega)
      omega
    refine wk_aload_n (i := 0) (q := 20) dX6_table_19 rfl rfl rfl ?_
    refine wk_getR (fi := 2) (q := 23) dX6_table_20 rfl fl_X6_24 rfl rfl hX.ob hX.r2 ?_
    refine wk_aload_n (i := 0) (q := 24) dX6_table_23 rfl rfl rfl ?_
    refine wk_getR (fi := 0) (q := 27) dX6_table_24 rfl fl_X6_13 rfl rfl hX.ob hX.r0 ?_
    refine wk_iload_n (i := 1) (q := 28) dX6_table_27 rfl rfl rfl ?_
    refine wk_aald3 (q := 29) dX6_table_28 rfl hX.s0 (by omega) (hX.w0 (by omega)) ?_
    refine wk_iload_n (i := 3) (q := 30) dX6_table_29 rfl rfl rfl ?_
    refine wk_iload (i := 4) (q := 32) dX6_table_30 rfl rfl ?_
    refine wk_cZ3 (q := 35) dX6_table_32 rfl vl_X6_69 ⟨_, _, rfl⟩ hX.o2.ob (ct_X5_isRead (c := V.ce k) hX.o2 (hX.e0 (by omega)) (by omega) (fun p p0 p1 => ⟨by rw [f1 _ _ (by omega)]; exact sk.2.2.2 p p0 p1, sv.2.2.2.2 p p0 p1⟩) (by omega) (by omega) (by omega)) (qRo_m ok_X5_isRead (by decide) (Nat.le_refl _) (Nat.le_refl _)) (Nat.le_of_ble_eq_true rfl) (fun v32 I32 L32 R32 hv32 => ?_)
    rcases hv32 with ⟨rfl, hv32⟩ | ⟨rfl, hv32⟩
    · obtain ⟨rfl, rfl, p32, x32, f32, f33⟩ := hv32
      refine wk_if_ne (t := 49) (q := 38) dX6_table_35 rfl rfl (by omega) (fun _ => ?_) (fun hq => absurd hq (by decide))
      rw [show refR V k so i z = 0 by omega]
      exact fin (by omega) p32 _ (fun b j q1 q2 => by rw [x32 b j q2]; exact f1 b j q1) (by rw [x32 _ _ (by omega), f2]; exact rf) f33
    · obtain ⟨rfl, rfl, p32, x32, f32, f33⟩ := hv32
      refine wk_if_ne (t := 49) (q := 38) dX6_table_35 rfl rfl (by omega) (fun hq => absurd hq (by decide)) (fun _ => ?_)
      refine wk_bipush (q := 40) dX6_table_38 rfl (by decide +kernel) ?_
      refine wk_aload_n (i := 0) (q := 41) dX6_table_40 rfl rfl rfl ?_
      refine wk_getR (fi := 2) (q := 44) dX6_table_41 rfl fl_X6_24 rfl rfl hX.ob hX.r2 ?_
      refine wk_cP0 (q := 47) dX6_table_44 rfl vl_X6_73 ⟨_, _, rfl⟩ hX.o2.ob (ct_X5_place hX.o2) (qRo_m ok_X5_place (by decide) (Nat.le_refl _) (Nat.le_refl _)) (Nat.le_of_ble_eq_true rfl) (fun v44 hv44 => ?_)
      rw [f32, f33] at hv44
      refine wk_isub (q := 48) dX6_table_47 rfl ?_
      refine wk_iret dX6_table_48 rfl ⟨Nat.le_refl _, Nat.le_refl _⟩ rfl ?_
      refine ⟨_, _, _, _, rfl, rfl, ?_, ?_, fun b j q => by rw [x32 b j (by omega)]; exact f1 b j (by omega), fun _ _ _ => rfl⟩
      · unfold r_table
        rw [if_neg (by omega), if_neg p32, hv44]
      · unfold s_table
        rw [if_neg (by omega), if_neg p32]
        exact (hh.dra (V' := V.setFa 0) ⟨rfl, rfl, rfl, rfl, rfl, rfl, rfl⟩ ⟨rfl, rfl⟩ (fun b j q1 q2 => by rw [x32 b j q2]; exact f1 b j q1) (by rw [x32 _ _ (by omega), f2]; exact rf)).ci
  · refine wk_iload (i := 5) (q := 18) dX6_table_16 rfl rfl ?_
    refine wk_iret dX6_table_18 rfl ⟨Nat.le_refl _, Nat.le_refl _⟩ rfl ?_
    refine ⟨_, _, _, _, rfl, rfl, ?_, ?_, fun b j q => f1 b j (by omega), fun _ _ _ => rfl⟩
    · unfold r_table
      rw [if_pos (by omega)]
    · unfold s_table
      rw [if_pos (by omega)]
      exact (hh.fld (V' := V.setFa (refF V k so i z)) ⟨rfl, rfl, rfl, rfl, rfl, rfl, rfl⟩ (fun b j q => f1 b j (by omega)) (by rw [f1 _ _ (by omega)]; exact h10) (by rw [f1 _ _ (by omega)]; exact h11) f2).ci
end BEGIN
