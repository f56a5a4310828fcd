/-! the reference's lies -/
section LIES2
variable {l : Launch} {E : qEv} {n : Nat} {sh : qSh} {I L : qI} {R : qR}
/-- an evening of what is laid -/
theorem ct_nightC {m : Nat} {T : TT} {C' : CC} {la : Int → Int} (hM : qMod E.2.2 n sh R m) (hT : T.ok) (hC' : C'.ok T) (hmT : mT I m T) (hC : mC I m T C') (hla : ∀ g, 0 ≤ g → g < T.ng → I (m + 20) g = la g) (hLA : LAok T la) (hsp : I m 33 = mS C') :
    Ct l E 4 mX7_goNight [.ref m] (n, sh, I, L, R) 0 0 (qV n sh (fun I' L' R' => L' = L ∧ R' = R ∧ frN I I' m ∧ mC I' m T C' ∧ evM I I' m T C' la)) := by
  refine (ct_X7_goNight hM hT hC' hmT hC hla hLA hsp).mono ?_
  rintro v S' ⟨I', L', R', rfl, rfl, rfl, rfl, f1⟩
  exact ⟨_, _, _, rfl, rfl, rfl, rfl, f1.1.n, hC.fr f1.1, f1⟩
/-- what a lie leaves as it was -/
def frY (I I' : qI) (m : Nat) (g nd : Int) : Prop := ∀ b i, ¬ (b = m ∧ (i = 28 ∨ i = 30 ∨ i = 33)) → ¬ (m + 19 ≤ b ∧ b ≤ m + 25) → b ≠ m + 35 → ¬ (b = m + 10 ∧ 6 * g ≤ i ∧ i < 6 * g + nd) → I' b i = I b i
theorem ct_X7_gladByLie {m : Nat} {V : VV} {g d : Int} (hM : qMod E.2.2 n sh R m) (h : MI I m V) (g0 : 0 ≤ g) (g1 : g < V.T.ng) (hd : 0 ≤ d ∧ d < V.T.nd) :
    Ct l E 5 mX7_gladByLie [.ref m, .int (zI g), .int (zI d)] (n, sh, I, L, R) 0 0 (qZ n sh (fun v I' L' R' => v = lieG V g d ∧ MI I' m V ∧ frO I I' m 36 ∧ L' = L ∧ R' = R)) := by
  have hng := h.1.ng
  obtain ⟨t1, t2, t3⟩ := h.1.tab (by omega)
  obtain ⟨e5, e6, ed, eg⟩ := h.2.2.2.2.2.1
  obtain ⟨n1, n2, n3, n4⟩ := h.2.2.2.2.2.2 (by omega)
  have nd1 := t1.2.2.1
  have sb := fun d' d0 d1 => (t2.1.2.2.2.2.2.2.2.2.2.2 g g0 g1).2.2 d' d0 d1
  -- what was said comes back
  have loop2 : ∀ k : Nat, k ≤ V.T.nd.toNat → ∀ I2 : qI, (frY I I2 m g V.T.nd ∧ (∀ d' : Int, 0 ≤ d' → d' < V.T.nd → I2 (m + 35) d' = V.C.sa g d') ∧ (∀ d' : Int, 0 ≤ d' → d' < k → I2 (m + 10) (6 * g + d') = V.C.sa g d') ∧ I2 (m + 23) g = lieG V g d) → Wk l E (qmo E 5 n 0 0 (qZ n sh (fun v I' L' R' => v = lieG V g d ∧ MI I' m V ∧ frO I I' m 36 ∧ L' = L ∧ R' = R))) mX7_gladByLie 0 0 65
      [(0, .ref m), (1, .int (zI g)), (2, .int (zI d)), (3, .int (zI (k : Int)))] [] (n, sh, I2, L, R) := by
    refine up_ind V.T.nd.toNat ?_ ?_
    · rintro I2 ⟨f1, f2, f3, f4⟩
      have e6' : I2 m 6 = V.T.nd := by rw [f1 _ _ (by omega) (by omega) (by omega) (by omega)]; exact e6
      refine wk_iload_n (i := 3) (q := 66) dX7_gladByLie_65 rfl rfl rfl ?_
      refine wk_aload_n (i := 0) (q := 67) dX7_gladByLie_66 rfl rfl rfl ?_
      refine wk_getI (fi := 6) (q := 70) dX7_gladByLie_67 rfl fl_X7_128 rfl rfl hM.ob ?_
      refine wk_icmp_ge (t := 96) (q := 73) dX7_gladByLie_70 rfl rfl (by omega) (by omega) (fun hc70 => ?_) (fun hc70 => ?_)
      · refine wk_aload_n (i := 0) (q := 97) dX7_gladByLie_96 rfl rfl rfl ?_
        refine wk_getR (fi := 35) (q := 100) dX7_gladByLie_97 rfl fl_X7_76 rfl rfl hM.ob hM.r35 ?_
        refine wk_iload_n (i := 1) (q := 101) dX7_gladByLie_100 rfl rfl rfl ?_
        refine wk_iald (q := 102) dX7_gladByLie_101 rfl hM.s35 (by omega) ?_
        refine wk_iret dX7_gladByLie_102 rfl ⟨Nat.le_refl _, Nat.le_refl _⟩ rfl ?_
        refine ⟨_, _, _, _, rfl, rfl, f4, ?_, fun b i q => f1 b i (by omega) (by omega) (by omega) (by omega), rfl, rfl⟩
        refine h.fld ⟨rfl, rfl, rfl, rfl⟩ ⟨rfl, rfl, rfl, rfl⟩ (fun b i q => ?_) (by rw [f1 _ _ (by omega) (by omega) (by omega) (by omega)]; exact h.2.2.1) (by rw [f1 _ _ (by omega) (by omega) (by omega) (by omega)]; exact h.2.2.2.1)
        by_cases hq : b = m + 10 ∧ 6 * g ≤ i ∧ i < 6 * g + V.T.nd
        · rw [hq.1, show i = 6 * g + (i - 6 * g) by omega, f3 _ (by omega) (by omega)]
          exact ((n4 g g0 g1).2 _ (by omega) (by omega)).symm
        · exact f1 b i (by omega) (by omega) (by omega) hq
      · omega
    · rintro k hk ih I2 ⟨f1, f2, f3, f4⟩
      have e6' : I2 m 6 = V.T.nd := by rw [f1 _ _ (by omega) (by omega) (by omega) (by omega)]; exact e6
      have ek := f2 k (by omega) (by omega)
      refine wk_iload_n (i := 3) (q := 66) dX7_gladByLie_65 rfl rfl rfl ?_
      refine wk_aload_n (i := 0) (q := 67) dX7_gladByLie_66 rfl rfl rfl ?_
      refine wk_getI (fi := 6) (q := 70) dX7_gladByLie_67 rfl fl_X7_128 rfl rfl hM.ob ?_
      refine wk_icmp_ge (t := 96) (q := 73) dX7_gladByLie_70 rfl rfl (by omega) (by omega) (fun hc70 => ?_) (fun hc70 => ?_)
      · omega
      · refine wk_aload_n (i := 0) (q := 74) dX7_gladByLie_73 rfl rfl rfl ?_
        refine wk_getR (fi := 13) (q := 77) dX7_gladByLie_74 rfl fl_X7_37 rfl rfl hM.ob hM.r13 ?_
        refine wk_bipush (q := 79) dX7_gladByLie_77 rfl (by decide +kernel) ?_
        refine wk_iload_n (i := 1) (q := 80) dX7_gladByLie_79 rfl rfl rfl ?_
        refine wk_imul (q := 81) dX7_gladByLie_80 rfl ?_
        refine wk_iload_n (i := 3) (q := 82) dX7_gladByLie_81 rfl rfl rfl ?_
        refine wk_iadd (q := 83) dX7_gladByLie_82 rfl ?_
        refine wk_aload_n (i := 0) (q := 84) dX7_gladByLie_83 rfl rfl rfl ?_
        refine wk_getR (fi := 50) (q := 87) dX7_gladByLie_84 rfl fl_X7_112 rfl rfl hM.ob hM.r50 ?_
        refine wk_iload_n (i := 3) (q := 88) dX7_gladByLie_87 rfl rfl rfl ?_
        refine wk_iald (q := 89) dX7_gladByLie_88 rfl hM.s50 (by omega) ?_
        rw [ek]
        refine wk_iast (q := 90) dX7_gladByLie_89 rfl hM.s13 (by omega) ?_
        refine wk_iinc (lo' := [(0, _), (1, _), (2, _), (3, _)]) (q := 93) dX7_gladByLie_90 rfl rfl (by decide) rfl ?_
        refine wk_goto (t := 65) dX7_gladByLie_93 rfl ?_
        refine ih _ ⟨fun b i q0 q1 q2 q3 => by rw [up_off (by omega)]; exact f1 b i q0 q1 q2 q3, fun d' d0 d1 => by rw [up_na _ _ _ _ (by omega)]; exact f2 d' d0 d1, fun d' d0 d1 => ?_, by rw [up_na _ _ _ _ (by omega)]; exact f4⟩
        by_cases hq : d' = k
        · rw [hq, up_eq]
        · rw [up_ni _ _ (by omega)]
          exact f3 d' d0 (by omega)
  have loop1 : ∀ k : Nat, k ≤ V.T.nd.toNat → ∀ I1 : qI, (frY I I1 m g V.T.nd ∧ (∀ b i, m + 19 ≤ b → b ≤ m + 25 → I1 b i = I b i) ∧ (∀ d' : Int, 0 ≤ d' → d' < k → I1 (m + 35) d' = V.C.sa g d' ∧ I1 (m + 10) (6 * g + d') = if d' = d then 9 else 0) ∧ ∀ d' : Int, (k : Int) ≤ d' → d' < V.T.nd → I1 (m + 10) (6 * g + d') = V.C.sa g d') → Wk l E (qmo E 5 n 0 0 (qZ n sh (fun v I' L' R' => v = lieG V g d ∧ MI I' m V ∧ frO I I' m 36 ∧ L' = L ∧ R' = R))) mX7_gladByLie 0 0 2
      [(0, .ref m), (1, .int (zI g)), (2, .int (zI d)), (3, .int (zI (k : Int)))] [] (n, sh, I1, L, R) := by
    refine up_ind V.T.nd.toNat ?_ ?_
    · rintro I1 ⟨f1, f2, f3, f4⟩
      have e6' : I1 m 6 = V.T.nd := by rw [f1 _ _ (by omega) (by omega) (by omega) (by omega)]; exact e6
      have hmT : mT I1 m V.T := h.2.2.2.2.2.1.cg (fun b i q => f1 b i (by omega) (by omega) (by omega) (by omega))
      have hN : mNowW I1 m V.T (lieC V g d) V.la := by
        refine ⟨by rw [f1 _ _ (by omega) (by omega) (by omega) (by omega)]; exact n1, by rw [f1 _ _ (by omega) (by omega) (by omega) (by omega)]; exact n2, fun s s0 s1 => by rw [f1 _ _ (by omega) (by omega) (by omega) (by omega)]; exact n3 s s0 s1, fun a a0 a1 => ⟨by rw [f1 _ _ (by omega) (by omega) (by omega) (by omega)]; exact (n4 a a0 a1).1, fun b b0 b1 w => ?_⟩⟩
        show _ = if a = g then (if V.T.wo g b = -1 then V.C.sa g b else if b = d then 9 else 0) else V.C.sa a b
        by_cases hq : a = g
        · subst hq
          rw [if_pos rfl, if_neg w]
          exact (f3 b b0 (by omega)).2
        · rw [if_neg hq, f1 _ _ (by omega) (by omega) (by omega) (by omega)]
          exact (n4 a a0 a1).2 b b0 b1
      have hC' := lieC_ok t2 g d
      refine wk_iload_n (i := 3) (q := 3) dX7_gladByLie_2 rfl rfl rfl ?_
      refine wk_aload_n (i := 0) (q := 4) dX7_gladByLie_3 rfl rfl rfl ?_
      refine wk_getI (fi := 6) (q := 7) dX7_gladByLie_4 rfl fl_X7_128 rfl rfl hM.ob ?_
      refine wk_icmp_ge (t := 55) (q := 10) dX7_gladByLie_7 rfl rfl (by omega) (by omega) (fun hc7 => ?_) (fun hc7 => ?_)
      · refine wk_aload_n (i := 0) (q := 56) dX7_gladByLie_55 rfl rfl rfl ?_
        refine wk_cV0 (q := 59) dX7_gladByLie_56 rfl vl_X7_224 ⟨_, _, rfl⟩ hM.ob (ct_X7_layNow hM t1 hC' hmT hN) (qRo_m ok_X7_layNow (by decide) (Nat.le_refl _) (Nat.le_refl _)) (Nat.le_of_ble_eq_true rfl) (fun I56 L56 R56 hv56 => ?_)
        obtain ⟨rfl, rfl, j1, j2, j3, j4, j5, j6⟩ := hv56
        refine wk_aload_n (i := 0) (q := 60) dX7_gladByLie_59 rfl rfl rfl ?_
        refine wk_cV0 (q := 63) dX7_gladByLie_60 rfl vl_X7_227 ⟨_, _, rfl⟩ hM.ob (ct_nightC hM t1 hC'.1 j2 j3 j5 t3.ok (j6.trans (mS_now hC').symm)) (qRo_m ok_X7_goNight (by decide) (Nat.le_refl _) (Nat.le_refl _)) (Nat.le_of_ble_eq_true rfl) (fun I60 L60 R60 hv60 => ?_)
        obtain ⟨rfl, rfl, k1, k2, k3⟩ := hv60
        refine wk_iconst (q := 64) dX7_gladByLie_63 rfl ?_
        refine wk_istore_n (i := 3) (lo' := [(0, _), (1, _), (2, _), (3, _)]) (q := 65) dX7_gladByLie_64 rfl rfl (by decide) rfl ?_
        exact loop2 0 (Nat.zero_le _) _ ⟨fun b i q0 q1 q2 q3 => by rw [k1 b i q0 q1, j1 b i q0 (by omega)]; exact f1 b i q0 q1 q2 q3, fun d' d0 d1 => by rw [k1 _ _ (by omega) (by omega), j1 _ _ (by omega) (by omega)]; exact (f3 d' d0 (by omega)).1, fun d' d0 d1 => by omega, k3.2.2.2.1 g g0 g1⟩
      · omega
    · rintro k hk ih I1 ⟨f1, f2, f3, f4⟩
      have e6' : I1 m 6 = V.T.nd := by rw [f1 _ _ (by omega) (by omega) (by omega) (by omega)]; exact e6
      have ek := f4 k (by omega) (by omega)
      have bk := sb k (by omega) (by omega)
      have nx : ∀ v : Int, (v = if (k : Int) = d then 9 else 0) → Wk l E (qmo E 5 n 0 0 (qZ n sh (fun v I' L' R' => v = lieG V g d ∧ MI I' m V ∧ frO I I' m 36 ∧ L' = L ∧ R' = R))) mX7_gladByLie 0 0 2
          [(0, .ref m), (1, .int (zI g)), (2, .int (zI d)), (3, .int (zI ((k : Int) + 1)))] [] (n, sh, up (up I1 (m + 35) (k : Int) (V.C.sa g k)) (m + 10) (6 * g + k) v, L, R) := by
        intro v hv
        refine ih _ ⟨fun b i q0 q1 q2 q3 => by rw [up_off (by omega), up_na _ _ _ _ (by omega)]; exact f1 b i q0 q1 q2 q3, fun b i q0 q1 => by rw [up_na _ _ _ _ (by omega), up_na _ _ _ _ (by omega)]; exact f2 b i q0 q1, fun d' d0 d1 => ?_, fun d' d0 d1 => ?_⟩
        · by_cases hq : d' = k
          · rw [hq, up_na _ _ _ _ (by omega), up_eq, up_eq]
            exact ⟨rfl, hv⟩
          · rw [up_na _ _ _ _ (by omega), up_ni _ _ hq, up_ni _ _ (by omega), up_na _ _ _ _ (by omega)]
            exact f3 d' d0 (by omega)
        · rw [up_ni _ _ (by omega), up_na _ _ _ _ (by omega)]
          exact f4 d' (by omega) d1
      refine wk_iload_n (i := 3) (q := 3) dX7_gladByLie_2 rfl rfl rfl ?_
      refine wk_aload_n (i := 0) (q := 4) dX7_gladByLie_3 rfl rfl rfl ?_
      refine wk_getI (fi := 6) (q := 7) dX7_gladByLie_4 rfl fl_X7_128 rfl rfl hM.ob ?_
      refine wk_icmp_ge (t := 55) (q := 10) dX7_gladByLie_7 rfl rfl (by omega) (by omega) (fun hc7 => ?_) (fun hc7 => ?_)
      · omega
      · refine wk_aload_n (i := 0) (q := 11) dX7_gladByLie_10 rfl rfl rfl ?_
        refine wk_getR (fi := 50) (q := 14) dX7_gladByLie_11 rfl fl_X7_112 rfl rfl hM.ob hM.r50 ?_
        refine wk_iload_n (i := 3) (q := 15) dX7_gladByLie_14 rfl rfl rfl ?_
        refine wk_aload_n (i := 0) (q := 16) dX7_gladByLie_15 rfl rfl rfl ?_
        refine wk_getR (fi := 13) (q := 19) dX7_gladByLie_16 rfl fl_X7_37 rfl rfl hM.ob hM.r13 ?_
        refine wk_bipush (q := 21) dX7_gladByLie_19 rfl (by decide +kernel) ?_
        refine wk_iload_n (i := 1) (q := 22) dX7_gladByLie_21 rfl rfl rfl ?_
        refine wk_imul (q := 23) dX7_gladByLie_22 rfl ?_
        refine wk_iload_n (i := 3) (q := 24) dX7_gladByLie_23 rfl rfl rfl ?_
        refine wk_iadd (q := 25) dX7_gladByLie_24 rfl ?_
        refine wk_iald (q := 26) dX7_gladByLie_25 rfl hM.s13 (by omega) ?_
        rw [ek]
        refine wk_iast (q := 27) dX7_gladByLie_26 rfl hM.s50 (by omega) ?_
        refine wk_aload_n (i := 0) (q := 28) dX7_gladByLie_27 rfl rfl rfl ?_
        refine wk_getR (fi := 13) (q := 31) dX7_gladByLie_28 rfl fl_X7_37 rfl rfl hM.ob hM.r13 ?_
        refine wk_bipush (q := 33) dX7_gladByLie_31 rfl (by decide +kernel) ?_
        refine wk_iload_n (i := 1) (q := 34) dX7_gladByLie_33 rfl rfl rfl ?_
        refine wk_imul (q := 35) dX7_gladByLie_34 rfl ?_
        refine wk_iload_n (i := 3) (q := 36) dX7_gladByLie_35 rfl rfl rfl ?_
        refine wk_iadd (q := 37) dX7_gladByLie_36 rfl ?_
        refine wk_iload_n (i := 3) (q := 38) dX7_gladByLie_37 rfl rfl rfl ?_
        refine wk_iload_n (i := 2) (q := 39) dX7_gladByLie_38 rfl rfl rfl ?_
        refine wk_icmp_ne (t := 47) (q := 42) dX7_gladByLie_39 rfl rfl (by omega) (by omega) (fun hc39 => ?_) (fun hc39 => ?_)
        · refine wk_iconst (q := 48) dX7_gladByLie_47 rfl ?_
          refine wk_iast (q := 49) dX7_gladByLie_48 rfl hM.s13 (by omega) ?_
          refine wk_iinc (lo' := [(0, _), (1, _), (2, _), (3, _)]) (q := 52) dX7_gladByLie_49 rfl rfl (by decide) rfl ?_
          refine wk_goto (t := 2) dX7_gladByLie_52 rfl ?_
          first
          | exact nx 9 (by rw [if_pos (by omega)])
          | exact nx 0 (by rw [if_neg (by omega)])
        · refine wk_bipush (q := 44) dX7_gladByLie_42 rfl (by decide +kernel) ?_
          refine wk_goto (t := 48) dX7_gladByLie_44 rfl ?_
          refine wk_iast (q := 49) dX7_gladByLie_48 rfl hM.s13 (by omega) ?_
          refine wk_iinc (lo' := [(0, _), (1, _), (2, _), (3, _)]) (q := 52) dX7_gladByLie_49 rfl rfl (by decide) rfl ?_
          refine wk_goto (t := 2) dX7_gladByLie_52 rfl ?_
          first
          | exact nx 9 (by rw [if_pos (by omega)])
          | exact nx 0 (by rw [if_neg (by omega)])
  refine Ct.of (lo := [(0, _), (1, _), (2, _)]) ok_X7_gladByLie (Nat.le_of_ble_eq_true rfl) rfl ?_
  have l1 := loop1 0 (Nat.zero_le _) I ⟨fun _ _ _ _ _ _ => rfl, fun _ _ _ _ => rfl, fun d' d0 d1 => by omega, fun d' d0 d1 => (n4 g g0 g1).2 d' (by omega) d1⟩
  refine wk_iconst (q := 1) dX7_gladByLie_0 rfl ?_
  refine wk_istore_n (i := 3) (lo' := [(0, _), (1, _), (2, _), (3, _)]) (q := 2) dX7_gladByLie_1 rfl rfl (by decide) rfl ?_
  exact l1
theorem om_lies {m : Nat} {V : VV} {g w : Int} (hM : qMod E.2.2 n sh R m) (h : MI I m V) (hg : in32 g) (hw : in32 w) :
    Ct l E 6 mX7_lies [.ref m, .int (zI g), .int (zI w)] (n, sh, I, L, R) 0 0 (qZ n sh (mpZ m I L R (r_lies V g w) V)) := by
  have hng := h.1.ng
  have e5 := h.2.2.2.2.2.1.1
  have loop : (0 ≤ g ∧ g < V.T.ng) → (w = 0 ∨ w = 1) → ∀ k : Nat, k ≤ V.T.nd.toNat → ∀ I1 : qI, MI I1 m V → frO I I1 m 36 → ∀ lo6 : List (Nat × Value), lo6 = [] → Wk l E (qmo E 6 n 0 0 (qZ n sh (mpZ m I L R (r_lies V g w) V))) mX7_lies 0 0 44
      [(0, .ref m), (1, .int (zI g)), (2, .int (zI w)), (3, .int (zI (lieF V g k).1)), (4, .int (zI (lieF V g k).2)), (5, .int (zI (k : Int)))] [] (n, sh, I1, L, R) := by
    intro hgg hw2
    obtain ⟨t1, t2, t3⟩ := h.1.tab (by omega)
    have hlf := lieF_in t1 t2 hgg.1 hgg.2
    refine up_ind V.T.nd.toNat ?_ ?_
    · rintro I1 h1 f1 lo6 -
      have e6' := h1.2.2.2.2.2.1.2.1
      have q := hlf V.T.nd.toNat
      refine wk_iload (i := 5) (q := 46) dX7_lies_44 rfl rfl ?_
      refine wk_aload_n (i := 0) (q := 47) dX7_lies_46 rfl rfl rfl ?_
      refine wk_getI (fi := 6) (q := 50) dX7_lies_47 rfl fl_X7_128 rfl rfl hM.ob ?_
      refine wk_icmp_ge (t := 101) (q := 53) dX7_lies_50 rfl rfl (by omega) (by omega) (fun hc50 => ?_) (fun hc50 => ?_)
      · refine wk_iload_n (i := 2) (q := 102) dX7_lies_101 rfl rfl rfl ?_
        refine wk_if_ne (t := 110) (q := 105) dX7_lies_102 rfl rfl (by omega) (fun hc102 => ?_) (fun hc102 => ?_)
        · refine wk_iload_n (i := 3) (q := 111) dX7_lies_110 rfl rfl rfl ?_
          refine wk_iret dX7_lies_111 rfl ⟨Nat.le_refl _, Nat.le_refl _⟩ rfl ?_
          refine ⟨_, _, _, _, rfl, rfl, ?_, h1, f1, rfl, rfl⟩
          unfold r_lies
          rw [if_neg (by omega), if_neg (by omega)]
          first
            | rw [if_pos hc102]
            | rw [if_neg hc102]
        · refine wk_iload (i := 4) (q := 107) dX7_lies_105 rfl rfl ?_
          refine wk_goto (t := 111) dX7_lies_107 rfl ?_
          refine wk_iret dX7_lies_111 rfl ⟨Nat.le_refl _, Nat.le_refl _⟩ rfl ?_
          refine ⟨_, _, _, _, rfl, rfl, ?_, h1, f1, rfl, rfl⟩
          unfold r_lies
          rw [if_neg (by omega), if_neg (by omega)]
          first
            | rw [if_pos hc102]
            | rw [if_neg hc102]
      · omega
    · rintro k hk ih I1 h1 f1 lo6 -
      have e6' := h1.2.2.2.2.2.1.2.1
      have ek := (h1.2.2.2.2.2.1.2.2.2 g hgg.1 hgg.2).2.2.2 k (by omega) (by omega)
      have wk := (t1.2.2.2.2.2 g hgg.1 hgg.2).2.2.2.2.2.2 k (by omega) (by omega)
      have q := hlf k
      have q2 := evE_gl t1 (lieC_ok t2 g k).1 (la := V.la) hgg.1 hgg.2
      have q3 : lieG V g k = (evE V.T (lieC V g k) V.la).gl g := rfl
      have stay : (¬ (V.T.wo g k ≠ -1 ∧ (lieF V g k).1 < lieG V g k)) → ∀ I2 : qI, MI I2 m V → frO I I2 m 36 → Wk l E (qmo E 6 n 0 0 (qZ n sh (mpZ m I L R (r_lies V g w) V))) mX7_lies 0 0 44
          [(0, .ref m), (1, .int (zI g)), (2, .int (zI w)), (3, .int (zI (lieF V g k).1)), (4, .int (zI (lieF V g k).2)), (5, .int (zI ((k : Int) + 1)))] [] (n, sh, I2, L, R) := by
        intro hq I2 a1 a2
        have := ih I2 a1 a2 [] rfl
        unfold lieF at this
        rw [if_neg hq] at this
        exact this
      have take : V.T.wo g k ≠ -1 → (lieF V g k).1 < lieG V g k → ∀ I2 : qI, MI I2 m V → frO I I2 m 36 → Wk l E (qmo E 6 n 0 0 (qZ n sh (mpZ m I L R (r_lies V g w) V))) mX7_lies 0 0 44
          [(0, .ref m), (1, .int (zI g)), (2, .int (zI w)), (3, .int (zI (lieG V g k))), (4, .int (zI (k : Int))), (5, .int (zI ((k : Int) + 1)))] [] (n, sh, I2, L, R) := by
        intro hq1 hq2 I2 a1 a2
        have := ih I2 a1 a2 [] rfl
        unfold lieF at this
        rw [if_pos ⟨hq1, hq2⟩] at this
        exact this
      refine wk_iload (i := 5) (q := 46) dX7_lies_44 rfl rfl ?_
      refine wk_aload_n (i := 0) (q := 47) dX7_lies_46 rfl rfl rfl ?_
      refine wk_getI (fi := 6) (q := 50) dX7_lies_47 rfl fl_X7_128 rfl rfl hM.ob ?_
      refine wk_icmp_ge (t := 101) (q := 53) dX7_lies_50 rfl rfl (by omega) (by omega) (fun hc50 => ?_) (fun hc50 => ?_)
      · omega
      · refine wk_aload_n (i := 0) (q := 54) dX7_lies_53 rfl rfl rfl ?_
        refine wk_getR (fi := 12) (q := 57) dX7_lies_54 rfl fl_X7_34 rfl rfl hM.ob hM.r12 ?_
        refine wk_bipush (q := 59) dX7_lies_57 rfl (by decide +kernel) ?_
        refine wk_iload_n (i := 1) (q := 60) dX7_lies_59 rfl rfl rfl ?_
        refine wk_imul (q := 61) dX7_lies_60 rfl ?_
        refine wk_iload (i := 5) (q := 63) dX7_lies_61 rfl rfl ?_
        refine wk_iadd (q := 64) dX7_lies_63 rfl ?_
        refine wk_iald (q := 65) dX7_lies_64 rfl hM.s12 (by omega) ?_
        refine wk_iconst (q := 66) dX7_lies_65 rfl ?_
        rw [ek]
        refine wk_icmp_ne (t := 73) (q := 69) dX7_lies_66 rfl rfl (by omega) (by omega) (fun hc66 => ?_) (fun hc66 => ?_)
        · refine wk_aload_n (i := 0) (q := 74) dX7_lies_73 rfl rfl rfl ?_
          refine wk_iload_n (i := 1) (q := 75) dX7_lies_74 rfl rfl rfl ?_
          refine wk_iload (i := 5) (q := 77) dX7_lies_75 rfl rfl ?_
          refine wk_cZ2 (q := 80) dX7_lies_77 rfl vl_X7_310 ⟨_, _, rfl⟩ hM.ob (ct_X7_gladByLie hM h1 hgg.1 hgg.2 (by omega)) (qRo_m ok_X7_gladByLie (by decide) (Nat.le_refl _) (Nat.le_refl _)) (Nat.le_of_ble_eq_true rfl) (fun v77 I77 L77 R77 hv77 => ?_)
          obtain ⟨rfl, h2, j1, rfl, rfl⟩ := hv77
          refine wk_istore (i := 6) (lo' := [(0, _), (1, _), (2, _), (3, _), (4, _), (5, _), (6, _)]) (q := 82) dX7_lies_80 rfl (by decide) rfl ?_
          refine wk_iload (i := 6) (q := 84) dX7_lies_82 rfl rfl ?_
          refine wk_iload_n (i := 3) (q := 85) dX7_lies_84 rfl rfl rfl ?_
          refine wk_icmp_le (t := 95) (q := 88) dX7_lies_85 rfl rfl (by omega) (by omega) (fun hc85 => ?_) (fun hc85 => ?_)
          · refine wk_iinc (lo' := [(0, _), (1, _), (2, _), (3, _), (4, _), (5, _), (6, _)]) (q := 98) dX7_lies_95 rfl rfl (by decide) rfl ?_
            refine wk_goto (t := 44) dX7_lies_98 rfl ?_
            refine wk_del (i := 6) (lo' := [(0, _), (1, _), (2, _), (3, _), (4, _), (5, _)]) rfl ?_
            first
            | exact stay (fun q => q.1 hc66) _ h1 f1
            | exact stay (fun q => by omega) _ h2 (f1.tr j1)
            | exact take hc66 (by omega) _ h2 (f1.tr j1)
            | omega
          · refine wk_iload (i := 6) (q := 90) dX7_lies_88 rfl rfl ?_
            refine wk_istore_n (i := 3) (lo' := [(0, _), (1, _), (2, _), (3, _), (4, _), (5, _), (6, _)]) (q := 91) dX7_lies_90 rfl rfl (by decide) rfl ?_
            refine wk_iload (i := 5) (q := 93) dX7_lies_91 rfl rfl ?_
            refine wk_istore (i := 4) (lo' := [(0, _), (1, _), (2, _), (3, _), (4, _), (5, _), (6, _)]) (q := 95) dX7_lies_93 rfl (by decide) rfl ?_
            refine wk_iinc (lo' := [(0, _), (1, _), (2, _), (3, _), (4, _), (5, _), (6, _)]) (q := 98) dX7_lies_95 rfl rfl (by decide) rfl ?_
            refine wk_goto (t := 44) dX7_lies_98 rfl ?_
            refine wk_del (i := 6) (lo' := [(0, _), (1, _), (2, _), (3, _), (4, _), (5, _)]) rfl ?_
            first
            | exact stay (fun q => q.1 hc66) _ h1 f1
            | exact stay (fun q => by omega) _ h2 (f1.tr j1)
            | exact take hc66 (by omega) _ h2 (f1.tr j1)
            | omega
        · refine wk_iconst (q := 70) dX7_lies_69 rfl ?_
          refine wk_goto (t := 80) dX7_lies_70 rfl ?_
          refine wk_istore (i := 6) (lo' := [(0, _), (1, _), (2, _), (3, _), (4, _), (5, _), (6, _)]) (q := 82) dX7_lies_80 rfl (by decide) rfl ?_
          refine wk_iload (i := 6) (q := 84) dX7_lies_82 rfl rfl ?_
          refine wk_iload_n (i := 3) (q := 85) dX7_lies_84 rfl rfl rfl ?_
          refine wk_icmp_le (t := 95) (q := 88) dX7_lies_85 rfl rfl (by omega) (by omega) (fun hc85 => ?_) (fun hc85 => ?_)
          · refine wk_iinc (lo' := [(0, _), (1, _), (2, _), (3, _), (4, _), (5, _), (6, _)]) (q := 98) dX7_lies_95 rfl rfl (by decide) rfl ?_
            refine wk_goto (t := 44) dX7_lies_98 rfl ?_
            refine wk_del (i := 6) (lo' := [(0, _), (1, _), (2, _), (3, _), (4, _), (5, _)]) rfl ?_
            first
            | exact stay (fun q => q.1 hc66) _ h1 f1
            | exact stay (fun q => by omega) _ h2 (f1.tr j1)
            | exact take hc66 (by omega) _ h2 (f1.tr j1)
            | omega
          · refine wk_iload (i := 6) (q := 90) dX7_lies_88 rfl rfl ?_
            refine wk_istore_n (i := 3) (lo' := [(0, _), (1, _), (2, _), (3, _), (4, _), (5, _), (6, _)]) (q := 91) dX7_lies_90 rfl rfl (by decide) rfl ?_
            refine wk_iload (i := 5) (q := 93) dX7_lies_91 rfl rfl ?_
            refine wk_istore (i := 4) (lo' := [(0, _), (1, _), (2, _), (3, _), (4, _), (5, _), (6, _)]) (q := 95) dX7_lies_93 rfl (by decide) rfl ?_
            refine wk_iinc (lo' := [(0, _), (1, _), (2, _), (3, _), (4, _), (5, _), (6, _)]) (q := 98) dX7_lies_95 rfl rfl (by decide) rfl ?_
            refine wk_goto (t := 44) dX7_lies_98 rfl ?_
            refine wk_del (i := 6) (lo' := [(0, _), (1, _), (2, _), (3, _), (4, _), (5, _)]) rfl ?_
            first
            | exact stay (fun q => q.1 hc66) _ h1 f1
            | exact stay (fun q => by omega) _ h2 (f1.tr j1)
            | exact take hc66 (by omega) _ h2 (f1.tr j1)
            | omega
  refine Ct.of (lo := [(0, _), (1, _), (2, _)]) ok_X7_lies (Nat.le_of_ble_eq_true rfl) rfl ?_
  refine wk_aload_n (i := 0) (q := 1) dX7_lies_0 rfl rfl rfl ?_
  refine wk_iload_n (i := 1) (q := 2) dX7_lies_1 rfl rfl rfl ?_
  refine wk_cP1 (q := 5) dX7_lies_2 rfl vl_X7_184 ⟨_, _, rfl⟩ hM.ob (ct_X7_isGuest hM hg (by omega)) (qRo_m ok_X7_isGuest (by decide) (Nat.le_refl _) (Nat.le_refl _)) (Nat.le_of_ble_eq_true rfl) (fun v2 hv2 => ?_)
  rcases hv2 with ⟨rfl, hv2⟩ | ⟨rfl, hv2⟩
  · rw [e5] at hv2
    refine wk_if_ne (t := 10) (q := 8) dX7_lies_5 rfl rfl (by omega) (fun _ => ?_) (fun hq => absurd hq (by decide))
    refine wk_iload_n (i := 2) (q := 11) dX7_lies_10 rfl rfl rfl ?_
    refine wk_iconst (q := 12) dX7_lies_11 rfl ?_
    refine wk_iconst (q := 13) dX7_lies_12 rfl ?_
    refine wk_sP3 (q := 16) dX7_lies_13 rfl sl_X7_121 (ct_X7_within hw (by omega) (by omega)) (qRo_m ok_X7_within (by decide) (Nat.le_refl _) (Nat.le_refl _)) (Nat.le_of_ble_eq_true rfl) (fun v13 hv13 => ?_)
    rcases hv13 with ⟨rfl, hv13⟩ | ⟨rfl, hv13⟩
    · refine wk_if_ne (t := 22) (q := 19) dX7_lies_16 rfl rfl (by omega) (fun _ => ?_) (fun hq => absurd hq (by decide))
      refine wk_aload_n (i := 0) (q := 23) dX7_lies_22 rfl rfl rfl ?_
      refine wk_cV0 (q := 26) dX7_lies_23 rfl vl_X7_224 ⟨_, _, rfl⟩ hM.ob (ct_lay hM h (by omega)) (qRo_m ok_X7_layNow (by decide) (Nat.le_refl _) (Nat.le_refl _)) (Nat.le_of_ble_eq_true rfl) (fun I23 L23 R23 hv23 => ?_)
      obtain ⟨rfl, rfl, h1, f1, f2, f3, f4⟩ := hv23
      refine wk_aload_n (i := 0) (q := 27) dX7_lies_26 rfl rfl rfl ?_
      refine wk_cV0 (q := 30) dX7_lies_27 rfl vl_X7_227 ⟨_, _, rfl⟩ hM.ob (ct_nightV hM h1 (by omega) f2 f3 f4) (qRo_m ok_X7_goNight (by decide) (Nat.le_refl _) (Nat.le_refl _)) (Nat.le_of_ble_eq_true rfl) (fun I27 L27 R27 hv27 => ?_)
      obtain ⟨rfl, rfl, h2, g1, g2⟩ := hv27
      have ez : I27 (m + 23) g = (lieF V g 0).1 := g2.2.2.2.1 g hv2.1 hv2.2
      refine wk_aload_n (i := 0) (q := 31) dX7_lies_30 rfl rfl rfl ?_
      refine wk_getR (fi := 35) (q := 34) dX7_lies_31 rfl fl_X7_76 rfl rfl hM.ob hM.r35 ?_
      refine wk_iload_n (i := 1) (q := 35) dX7_lies_34 rfl rfl rfl ?_
      refine wk_iald (q := 36) dX7_lies_35 rfl hM.s35 (by omega) ?_
      rw [ez]
      refine wk_istore_n (i := 3) (lo' := [(0, _), (1, _), (2, _), (3, _)]) (q := 37) dX7_lies_36 rfl rfl (by decide) rfl ?_
      refine wk_bipush (q := 39) dX7_lies_37 rfl (by decide +kernel) ?_
      refine wk_istore (i := 4) (lo' := [(0, _), (1, _), (2, _), (3, _), (4, _)]) (q := 41) dX7_lies_39 rfl (by decide) rfl ?_
      refine wk_iconst (q := 42) dX7_lies_41 rfl ?_
      refine wk_istore (i := 5) (lo' := [(0, _), (1, _), (2, _), (3, _), (4, _), (5, _)]) (q := 44) dX7_lies_42 rfl (by decide) rfl ?_
      exact loop hv2 (by omega) 0 (Nat.zero_le _) _ h2 (f1.n.tr g2.1.n).o [] rfl
    · refine wk_if_ne (t := 22) (q := 19) dX7_lies_16 rfl rfl (by omega) (fun hq => absurd hq (by decide)) (fun _ => ?_)
      refine wk_bipush (q := 21) dX7_lies_19 rfl (by decide +kernel) ?_
      refine wk_iret dX7_lies_21 rfl ⟨Nat.le_refl _, Nat.le_refl _⟩ rfl ?_
      refine mp_same h rfl ?_
      unfold r_lies
      first
        | rw [if_pos hv2]
        | rw [if_neg (fun q => q hv2), if_pos (by omega)]
  · rw [e5] at hv2
    refine wk_if_ne (t := 10) (q := 8) dX7_lies_5 rfl rfl (by omega) (fun hq => absurd hq (by decide)) (fun _ => ?_)
    refine wk_iconst (q := 9) dX7_lies_8 rfl ?_
    refine wk_iret dX7_lies_9 rfl ⟨Nat.le_refl _, Nat.le_refl _⟩ rfl ?_
    refine mp_same h rfl ?_
    unfold r_lies
    first
      | rw [if_pos hv2]
      | rw [if_neg (fun q => q hv2), if_pos (by omega)]
end LIES2
