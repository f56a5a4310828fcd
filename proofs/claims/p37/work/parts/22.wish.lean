/-! what is asked for -/
theorem wishN_take {T : TT} {C : CC} {how h : Int} {le : Int → Int} {k : Nat} (h1 : 0 < le k) (h2 : T.wo h k ≠ -1) (h3 : wishN T C how h le k = -9 ∨ ahead T C how h k (wishN T C how h le k)) : wishN T C how h le (k + 1) = k := by
  rw [wishN, if_pos ⟨h1, h2, h3⟩]
theorem wishN_keep {T : TT} {C : CC} {how h : Int} {le : Int → Int} {k : Nat} (h1 : ¬ (0 < le k ∧ T.wo h k ≠ -1 ∧ (wishN T C how h le k = -9 ∨ ahead T C how h k (wishN T C how h le k)))) : wishN T C how h le (k + 1) = wishN T C how h le k := by
  rw [wishN, if_neg h1]
/-- the rank by which the class compares -/
def rkW (how : Int) : Int := if how = 0 then -10 else if how = 1 then -1 else 10
def rkP (how : Int) : Int := if how = 1 then 10 else 1
theorem rk_ahead {T : TT} {C : CC} {how h d o : Int} (hh : 0 ≤ how ∧ how ≤ 2) (hd : 0 ≤ C.sa h d ∧ C.sa h d ≤ 9) (ho : 0 ≤ C.sa h o ∧ C.sa h o ≤ 9) (pd : 0 ≤ T.pr d ∧ T.pr d ≤ 9) (po : 0 ≤ T.pr o ∧ T.pr o ≤ 9) :
    rkW how * C.sa h d + rkP how * T.pr d < rkW how * C.sa h o + rkP how * T.pr o ↔ ahead T C how h d o := by
  unfold ahead rkW rkP
  rcases (by omega : how = 0 ∨ how = 1 ∨ how = 2) with rfl | rfl | rfl <;> simp <;> omega
theorem rk_in {how a b : Int} (ha : -1 ≤ a ∧ a ≤ 9) (hb : 0 ≤ b ∧ b ≤ 9) : -1000 ≤ rkW how * a + rkP how * b ∧ rkW how * a + rkP how * b ≤ 1000 := by
  unfold rkW rkP
  split <;> split <;> first | omega | (split <;> omega)
section WISH
variable {l : Launch} {E : qEv} {n : Nat} {sh : qSh} {I L : qI} {R : qR}
theorem ct_X4_wish {t o : Nat} {h how : Int} {T : TT} {C : CC} {le : Int → Int} (hT : qTab E.2.2 n sh R t o) (hok : T.ok) (hC : C.ok T) (hsT : shT I o T) (hsC : shC I t T C) (hh : 0 ≤ h ∧ h < T.ng) (hhow : 0 ≤ how ∧ how ≤ 2) (hle : ∀ d, 0 ≤ d → d < T.nd → I (t + 26) d = le d ∧ 0 ≤ le d ∧ le d ≤ 9) :
    Ct l E 0 mX4_wish [.ref t, .int (zI how), .int (zI h)] (n, sh, I, L, R) 0 0 (qP n sh I L R (fun v => v = wish T C how h le)) := by
  have hn := hok.2.1
  have hnd := hok.2.2.2.1
  have hnd0 := hok.2.2.1
  obtain ⟨-, -, k3⟩ := hC.2.2.2.2.2.2.2.2.2.2 h hh.1 hh.2
  have e1 := (hsC.2.2.2.2 h hh.1 hh.2).2
  have e2 := hsT.2.2.1
  have e0 := hsT.1
  have pr := hok.2.2.2.2.1
  have loop : ∀ k : Nat, k ≤ T.nd.toNat → Wk l E (qmo E 0 n 0 0 (qP n sh I L R (fun v => v = wish T C how h le))) mX4_wish 0 0 52
      [(0, .ref t), (1, .int (zI how)), (2, .int (zI h)), (3, .int (zI (rkW how))), (4, .int (zI (rkP how))), (5, .ref (t + 19 + h.toNat)), (6, .int (zI (wishN T C how h le k))), (7, .int (zI (if wishN T C how h le k = -9 then 0 else rkW how * C.sa h (wishN T C how h le k) + rkP how * T.pr (wishN T C how h le k)))), (8, .int (zI (k : Int)))] [] (n, sh, I, L, R) := by
    refine up_ind T.nd.toNat ?_ ?_
    · have hw := wishN_in T C how h le T.nd.toNat
      refine wk_iload (i := 8) (q := 54) dX4_wish_52 rfl rfl ?_
      refine wk_aload_n (i := 0) (q := 55) dX4_wish_54 rfl rfl rfl ?_
      refine wk_getR (fi := 0) (q := 58) dX4_wish_55 rfl fl_X4_12 rfl rfl hT.1.ob hT.2.1 ?_
      refine wk_getI (fi := 6) (q := 61) dX4_wish_58 rfl fl_X4_80 rfl rfl hT.2.2.ob ?_
      refine wk_icmp_ge (t := 134) (q := 64) dX4_wish_61 rfl rfl (by omega) (by omega) (fun hc61 => ?_) (fun hc61 => ?_)
      · refine wk_iload (i := 6) (q := 136) dX4_wish_134 rfl rfl ?_
        refine wk_iret dX4_wish_136 rfl ⟨Nat.le_refl _, Nat.le_refl _⟩ rfl ?_
        refine ⟨_, _, _, _, rfl, rfl, rfl, rfl, rfl, ?_⟩
        rfl
      · omega
    · intro k hk ih
      have hkd : (k : Int) < T.nd := by omega
      have ek := e1 k (by omega) hkd
      have bk := k3 k (by omega) hkd
      have pk := (e2 k (by omega) hkd).2
      have lk := hle k (by omega) hkd
      have prk := pr k (by omega) hkd
      have hw := wishN_in T C how h le k
      have hr := rk_in (how := how) (a := C.sa h k) (b := T.pr k) ⟨by omega, by omega⟩ ⟨by omega, by omega⟩
      have hrw : wishN T C how h le k ≠ -9 → (-1000 ≤ rkW how * C.sa h (wishN T C how h le k) + rkP how * T.pr (wishN T C how h le k) ∧ rkW how * C.sa h (wishN T C how h le k) + rkP how * T.pr (wishN T C how h le k) ≤ 1000) ∧ (rkW how * C.sa h k + rkP how * T.pr k < rkW how * C.sa h (wishN T C how h le k) + rkP how * T.pr (wishN T C how h le k) ↔ ahead T C how h k (wishN T C how h le k)) ∨ C.sa h k = -1 := by
        intro hne
        obtain ⟨w0, w1, w2, w3⟩ := hw.resolve_left hne
        have b2 := k3 (wishN T C how h le k) w0 (by omega)
        have p2 := pr (wishN T C how h le k) w0 (by omega)
        by_cases hs : C.sa h k = -1
        · exact Or.inr hs
        · exact Or.inl ⟨rk_in ⟨by omega, by omega⟩ ⟨by omega, by omega⟩, rk_ahead hhow ⟨by omega, by omega⟩ ⟨by omega, by omega⟩ ⟨by omega, by omega⟩ ⟨by omega, by omega⟩⟩
      have keep : (¬ (0 < le k ∧ T.wo h k ≠ -1 ∧ (wishN T C how h le k = -9 ∨ ahead T C how h k (wishN T C how h le k)))) → Wk l E (qmo E 0 n 0 0 (qP n sh I L R (fun v => v = wish T C how h le))) mX4_wish 0 0 128
          [(0, .ref t), (1, .int (zI how)), (2, .int (zI h)), (3, .int (zI (rkW how))), (4, .int (zI (rkP how))), (5, .ref (t + 19 + h.toNat)), (6, .int (zI (wishN T C how h le k))), (7, .int (zI (if wishN T C how h le k = -9 then 0 else rkW how * C.sa h (wishN T C how h le k) + rkP how * T.pr (wishN T C how h le k)))), (8, .int (zI (k : Int)))] [] (n, sh, I, L, R) := by
        intro hq
        rw [wishN_keep hq] at ih
        refine wk_iinc (lo' := [(0, _), (1, _), (2, _), (3, _), (4, _), (5, _), (6, _), (7, _), (8, _)]) (q := 131) dX4_wish_128 rfl rfl (by decide) rfl ?_
        refine wk_goto (t := 52) dX4_wish_131 rfl ?_
        exact ih
      have take : 0 < le k → T.wo h k ≠ -1 → (wishN T C how h le k = -9 ∨ ahead T C how h k (wishN T C how h le k)) → Wk l E (qmo E 0 n 0 0 (qP n sh I L R (fun v => v = wish T C how h le))) mX4_wish 0 0 120
          [(0, .ref t), (1, .int (zI how)), (2, .int (zI h)), (3, .int (zI (rkW how))), (4, .int (zI (rkP how))), (5, .ref (t + 19 + h.toNat)), (6, .int (zI (wishN T C how h le k))), (7, .int (zI (if wishN T C how h le k = -9 then 0 else rkW how * C.sa h (wishN T C how h le k) + rkP how * T.pr (wishN T C how h le k)))), (8, .int (zI (k : Int))), (9, .int (zI (rkW how * C.sa h k + rkP how * T.pr k)))] [] (n, sh, I, L, R) := by
        intro q1 q2 q3
        rw [wishN_take q1 q2 q3, if_neg (by omega)] at ih
        refine wk_iload (i := 8) (q := 122) dX4_wish_120 rfl rfl ?_
        refine wk_istore (i := 6) (lo' := [(0, _), (1, _), (2, _), (3, _), (4, _), (5, _), (6, _), (7, _), (8, _), (9, _)]) (q := 124) dX4_wish_122 rfl (by decide) rfl ?_
        refine wk_iload (i := 9) (q := 126) dX4_wish_124 rfl rfl ?_
        refine wk_istore (i := 7) (lo' := [(0, _), (1, _), (2, _), (3, _), (4, _), (5, _), (6, _), (7, _), (8, _), (9, _)]) (q := 128) dX4_wish_126 rfl (by decide) rfl ?_
        refine wk_iinc (lo' := [(0, _), (1, _), (2, _), (3, _), (4, _), (5, _), (6, _), (7, _), (8, _), (9, _)]) (q := 131) dX4_wish_128 rfl rfl (by decide) rfl ?_
        refine wk_goto (t := 52) dX4_wish_131 rfl ?_
        refine wk_del (i := 9) (lo' := [(0, _), (1, _), (2, _), (3, _), (4, _), (5, _), (6, _), (7, _), (8, _)]) rfl ?_
        exact ih
      refine wk_iload (i := 8) (q := 54) dX4_wish_52 rfl rfl ?_
      refine wk_aload_n (i := 0) (q := 55) dX4_wish_54 rfl rfl rfl ?_
      refine wk_getR (fi := 0) (q := 58) dX4_wish_55 rfl fl_X4_12 rfl rfl hT.1.ob hT.2.1 ?_
      refine wk_getI (fi := 6) (q := 61) dX4_wish_58 rfl fl_X4_80 rfl rfl hT.2.2.ob ?_
      refine wk_icmp_ge (t := 134) (q := 64) dX4_wish_61 rfl rfl (by omega) (by omega) (fun hc61 => ?_) (fun hc61 => ?_)
      · omega
      · refine wk_aload_n (i := 0) (q := 65) dX4_wish_64 rfl rfl rfl ?_
        refine wk_getR (fi := 9) (q := 68) dX4_wish_65 rfl fl_X4_37 rfl rfl hT.1.ob hT.1.r9 ?_
        refine wk_iload (i := 8) (q := 70) dX4_wish_68 rfl rfl ?_
        refine wk_iald (q := 71) dX4_wish_70 rfl hT.1.s9 (by omega) ?_
        refine wk_if_le (t := 128) (q := 74) dX4_wish_71 rfl rfl (by omega) (fun hc71 => ?_) (fun hc71 => ?_)
        · exact keep (by omega)
        · refine wk_aload (i := 5) (q := 76) dX4_wish_74 rfl rfl ?_
          refine wk_iload (i := 8) (q := 78) dX4_wish_76 rfl rfl ?_
          refine wk_iald (q := 79) dX4_wish_78 rfl (hT.1.v4 (by omega)) (by omega) ?_
          refine wk_iconst (q := 80) dX4_wish_79 rfl ?_
          refine wk_icmp_eq (t := 128) (q := 83) dX4_wish_80 rfl rfl (by omega) (by omega) (fun hc80 => ?_) (fun hc80 => ?_)
          · exact keep (by omega)
          · refine wk_iload_n (i := 3) (q := 84) dX4_wish_83 rfl rfl rfl ?_
            refine wk_aload (i := 5) (q := 86) dX4_wish_84 rfl rfl ?_
            refine wk_iload (i := 8) (q := 88) dX4_wish_86 rfl rfl ?_
            refine wk_iald (q := 89) dX4_wish_88 rfl (hT.1.v4 (by omega)) (by omega) ?_
            refine wk_imul (q := 90) dX4_wish_89 rfl ?_
            refine wk_iload (i := 4) (q := 92) dX4_wish_90 rfl rfl ?_
            refine wk_aload_n (i := 0) (q := 93) dX4_wish_92 rfl rfl rfl ?_
            refine wk_getR (fi := 0) (q := 96) dX4_wish_93 rfl fl_X4_12 rfl rfl hT.1.ob hT.2.1 ?_
            refine wk_getR (fi := 1) (q := 99) dX4_wish_96 rfl fl_X4_117 rfl rfl hT.2.2.ob hT.2.2.r1 ?_
            refine wk_iload (i := 8) (q := 101) dX4_wish_99 rfl rfl ?_
            refine wk_iald (q := 102) dX4_wish_101 rfl hT.2.2.s1 (by omega) ?_
            refine wk_imul (q := 103) dX4_wish_102 rfl ?_
            refine wk_iadd (q := 104) dX4_wish_103 rfl ?_
            refine wk_istore (i := 9) (lo' := [(0, _), (1, _), (2, _), (3, _), (4, _), (5, _), (6, _), (7, _), (8, _), (9, _)]) (q := 106) dX4_wish_104 rfl (by decide) rfl ?_
            rw [ek, pk]
            refine wk_iload (i := 6) (q := 108) dX4_wish_106 rfl rfl ?_
            refine wk_bipush (q := 110) dX4_wish_108 rfl (by decide +kernel) ?_
            refine wk_icmp_eq (t := 120) (q := 113) dX4_wish_110 rfl rfl (by omega) (by omega) (fun hc110 => ?_) (fun hc110 => ?_)
            · exact take (by omega) (by omega) (by omega)
            · refine wk_iload (i := 9) (q := 115) dX4_wish_113 rfl rfl ?_
              refine wk_iload (i := 7) (q := 117) dX4_wish_115 rfl rfl ?_
              refine wk_icmp_ge (t := 128) (q := 120) dX4_wish_117 rfl rfl (by omega) (by split <;> omega) (fun hc117 => ?_) (fun hc117 => ?_)
              · refine wk_del (i := 9) (lo' := [(0, _), (1, _), (2, _), (3, _), (4, _), (5, _), (6, _), (7, _), (8, _)]) rfl ?_
                exact keep (by omega)
              · exact take (by omega) (by omega) (by omega)
  refine Ct.of (lo := [(0, _), (1, _), (2, _)]) ok_X4_wish (Nat.le_of_ble_eq_true rfl) rfl ?_
  have loop0 := loop 0 (Nat.zero_le _)
  unfold rkW rkP at loop0
  refine wk_iload_n (i := 1) (q := 1) dX4_wish_0 rfl rfl rfl ?_
  refine wk_if_ne (t := 9) (q := 4) dX4_wish_1 rfl rfl (by omega) (fun hc1 => ?_) (fun hc1 => ?_)
  · refine wk_iload_n (i := 1) (q := 10) dX4_wish_9 rfl rfl rfl ?_
    refine wk_iconst (q := 11) dX4_wish_10 rfl ?_
    refine wk_icmp_ne (t := 18) (q := 14) dX4_wish_11 rfl rfl (by omega) (by omega) (fun hc11 => ?_) (fun hc11 => ?_)
    · refine wk_bipush (q := 20) dX4_wish_18 rfl (by decide +kernel) ?_
      refine wk_istore_n (i := 3) (lo' := [(0, _), (1, _), (2, _), (3, _)]) (q := 21) dX4_wish_20 rfl rfl (by decide) rfl ?_
      refine wk_iload_n (i := 1) (q := 22) dX4_wish_21 rfl rfl rfl ?_
      refine wk_iconst (q := 23) dX4_wish_22 rfl ?_
      refine wk_icmp_ne (t := 31) (q := 26) dX4_wish_23 rfl rfl (by omega) (by omega) (fun hc23 => ?_) (fun hc23 => ?_)
      · refine wk_iconst (q := 32) dX4_wish_31 rfl ?_
        refine wk_istore (i := 4) (lo' := [(0, _), (1, _), (2, _), (3, _), (4, _)]) (q := 34) dX4_wish_32 rfl (by decide) rfl ?_
        refine wk_aload_n (i := 0) (q := 35) dX4_wish_34 rfl rfl rfl ?_
        refine wk_getR (fi := 4) (q := 38) dX4_wish_35 rfl fl_X4_30 rfl rfl hT.1.ob hT.1.r4 ?_
        refine wk_iload_n (i := 2) (q := 39) dX4_wish_38 rfl rfl rfl ?_
        refine wk_aald2 (q := 40) dX4_wish_39 rfl hT.1.s4 (by omega) (hT.1.w4 (by omega)) ?_
        refine wk_astore (i := 5) (lo' := [(0, _), (1, _), (2, _), (3, _), (4, _), (5, _)]) (q := 42) dX4_wish_40 rfl (by decide) rfl ?_
        refine wk_bipush (q := 44) dX4_wish_42 rfl (by decide +kernel) ?_
        refine wk_istore (i := 6) (lo' := [(0, _), (1, _), (2, _), (3, _), (4, _), (5, _), (6, _)]) (q := 46) dX4_wish_44 rfl (by decide) rfl ?_
        refine wk_iconst (q := 47) dX4_wish_46 rfl ?_
        refine wk_istore (i := 7) (lo' := [(0, _), (1, _), (2, _), (3, _), (4, _), (5, _), (6, _), (7, _)]) (q := 49) dX4_wish_47 rfl (by decide) rfl ?_
        refine wk_iconst (q := 50) dX4_wish_49 rfl ?_
        refine wk_istore (i := 8) (lo' := [(0, _), (1, _), (2, _), (3, _), (4, _), (5, _), (6, _), (7, _), (8, _)]) (q := 52) dX4_wish_50 rfl (by decide) rfl ?_
        simp_all [wishN]
      · refine wk_bipush (q := 28) dX4_wish_26 rfl (by decide +kernel) ?_
        refine wk_goto (t := 32) dX4_wish_28 rfl ?_
        refine wk_istore (i := 4) (lo' := [(0, _), (1, _), (2, _), (3, _), (4, _)]) (q := 34) dX4_wish_32 rfl (by decide) rfl ?_
        refine wk_aload_n (i := 0) (q := 35) dX4_wish_34 rfl rfl rfl ?_
        refine wk_getR (fi := 4) (q := 38) dX4_wish_35 rfl fl_X4_30 rfl rfl hT.1.ob hT.1.r4 ?_
        refine wk_iload_n (i := 2) (q := 39) dX4_wish_38 rfl rfl rfl ?_
        refine wk_aald2 (q := 40) dX4_wish_39 rfl hT.1.s4 (by omega) (hT.1.w4 (by omega)) ?_
        refine wk_astore (i := 5) (lo' := [(0, _), (1, _), (2, _), (3, _), (4, _), (5, _)]) (q := 42) dX4_wish_40 rfl (by decide) rfl ?_
        refine wk_bipush (q := 44) dX4_wish_42 rfl (by decide +kernel) ?_
        refine wk_istore (i := 6) (lo' := [(0, _), (1, _), (2, _), (3, _), (4, _), (5, _), (6, _)]) (q := 46) dX4_wish_44 rfl (by decide) rfl ?_
        refine wk_iconst (q := 47) dX4_wish_46 rfl ?_
        refine wk_istore (i := 7) (lo' := [(0, _), (1, _), (2, _), (3, _), (4, _), (5, _), (6, _), (7, _)]) (q := 49) dX4_wish_47 rfl (by decide) rfl ?_
        refine wk_iconst (q := 50) dX4_wish_49 rfl ?_
        refine wk_istore (i := 8) (lo' := [(0, _), (1, _), (2, _), (3, _), (4, _), (5, _), (6, _), (7, _), (8, _)]) (q := 52) dX4_wish_50 rfl (by decide) rfl ?_
        simp_all [wishN]
    · refine wk_iconst (q := 15) dX4_wish_14 rfl ?_
      refine wk_goto (t := 20) dX4_wish_15 rfl ?_
      refine wk_istore_n (i := 3) (lo' := [(0, _), (1, _), (2, _), (3, _)]) (q := 21) dX4_wish_20 rfl rfl (by decide) rfl ?_
      refine wk_iload_n (i := 1) (q := 22) dX4_wish_21 rfl rfl rfl ?_
      refine wk_iconst (q := 23) dX4_wish_22 rfl ?_
      refine wk_icmp_ne (t := 31) (q := 26) dX4_wish_23 rfl rfl (by omega) (by omega) (fun hc23 => ?_) (fun hc23 => ?_)
      · refine wk_iconst (q := 32) dX4_wish_31 rfl ?_
        refine wk_istore (i := 4) (lo' := [(0, _), (1, _), (2, _), (3, _), (4, _)]) (q := 34) dX4_wish_32 rfl (by decide) rfl ?_
        refine wk_aload_n (i := 0) (q := 35) dX4_wish_34 rfl rfl rfl ?_
        refine wk_getR (fi := 4) (q := 38) dX4_wish_35 rfl fl_X4_30 rfl rfl hT.1.ob hT.1.r4 ?_
        refine wk_iload_n (i := 2) (q := 39) dX4_wish_38 rfl rfl rfl ?_
        refine wk_aald2 (q := 40) dX4_wish_39 rfl hT.1.s4 (by omega) (hT.1.w4 (by omega)) ?_
        refine wk_astore (i := 5) (lo' := [(0, _), (1, _), (2, _), (3, _), (4, _), (5, _)]) (q := 42) dX4_wish_40 rfl (by decide) rfl ?_
        refine wk_bipush (q := 44) dX4_wish_42 rfl (by decide +kernel) ?_
        refine wk_istore (i := 6) (lo' := [(0, _), (1, _), (2, _), (3, _), (4, _), (5, _), (6, _)]) (q := 46) dX4_wish_44 rfl (by decide) rfl ?_
        refine wk_iconst (q := 47) dX4_wish_46 rfl ?_
        refine wk_istore (i := 7) (lo' := [(0, _), (1, _), (2, _), (3, _), (4, _), (5, _), (6, _), (7, _)]) (q := 49) dX4_wish_47 rfl (by decide) rfl ?_
        refine wk_iconst (q := 50) dX4_wish_49 rfl ?_
        refine wk_istore (i := 8) (lo' := [(0, _), (1, _), (2, _), (3, _), (4, _), (5, _), (6, _), (7, _), (8, _)]) (q := 52) dX4_wish_50 rfl (by decide) rfl ?_
        simp_all [wishN]
      · refine wk_bipush (q := 28) dX4_wish_26 rfl (by decide +kernel) ?_
        refine wk_goto (t := 32) dX4_wish_28 rfl ?_
        refine wk_istore (i := 4) (lo' := [(0, _), (1, _), (2, _), (3, _), (4, _)]) (q := 34) dX4_wish_32 rfl (by decide) rfl ?_
        refine wk_aload_n (i := 0) (q := 35) dX4_wish_34 rfl rfl rfl ?_
        refine wk_getR (fi := 4) (q := 38) dX4_wish_35 rfl fl_X4_30 rfl rfl hT.1.ob hT.1.r4 ?_
        refine wk_iload_n (i := 2) (q := 39) dX4_wish_38 rfl rfl rfl ?_
        refine wk_aald2 (q := 40) dX4_wish_39 rfl hT.1.s4 (by omega) (hT.1.w4 (by omega)) ?_
        refine wk_astore (i := 5) (lo' := [(0, _), (1, _), (2, _), (3, _), (4, _), (5, _)]) (q := 42) dX4_wish_40 rfl (by decide) rfl ?_
        refine wk_bipush (q := 44) dX4_wish_42 rfl (by decide +kernel) ?_
        refine wk_istore (i := 6) (lo' := [(0, _), (1, _), (2, _), (3, _), (4, _), (5, _), (6, _)]) (q := 46) dX4_wish_44 rfl (by decide) rfl ?_
        refine wk_iconst (q := 47) dX4_wish_46 rfl ?_
        refine wk_istore (i := 7) (lo' := [(0, _), (1, _), (2, _), (3, _), (4, _), (5, _), (6, _), (7, _)]) (q := 49) dX4_wish_47 rfl (by decide) rfl ?_
        refine wk_iconst (q := 50) dX4_wish_49 rfl ?_
        refine wk_istore (i := 8) (lo' := [(0, _), (1, _), (2, _), (3, _), (4, _), (5, _), (6, _), (7, _), (8, _)]) (q := 52) dX4_wish_50 rfl (by decide) rfl ?_
        simp_all [wishN]
  · refine wk_bipush (q := 6) dX4_wish_4 rfl (by decide +kernel) ?_
    refine wk_goto (t := 20) dX4_wish_6 rfl ?_
    refine wk_istore_n (i := 3) (lo' := [(0, _), (1, _), (2, _), (3, _)]) (q := 21) dX4_wish_20 rfl rfl (by decide) rfl ?_
    refine wk_iload_n (i := 1) (q := 22) dX4_wish_21 rfl rfl rfl ?_
    refine wk_iconst (q := 23) dX4_wish_22 rfl ?_
    refine wk_icmp_ne (t := 31) (q := 26) dX4_wish_23 rfl rfl (by omega) (by omega) (fun hc23 => ?_) (fun hc23 => ?_)
    · refine wk_iconst (q := 32) dX4_wish_31 rfl ?_
      refine wk_istore (i := 4) (lo' := [(0, _), (1, _), (2, _), (3, _), (4, _)]) (q := 34) dX4_wish_32 rfl (by decide) rfl ?_
      refine wk_aload_n (i := 0) (q := 35) dX4_wish_34 rfl rfl rfl ?_
      refine wk_getR (fi := 4) (q := 38) dX4_wish_35 rfl fl_X4_30 rfl rfl hT.1.ob hT.1.r4 ?_
      refine wk_iload_n (i := 2) (q := 39) dX4_wish_38 rfl rfl rfl ?_
      refine wk_aald2 (q := 40) dX4_wish_39 rfl hT.1.s4 (by omega) (hT.1.w4 (by omega)) ?_
      refine wk_astore (i := 5) (lo' := [(0, _), (1, _), (2, _), (3, _), (4, _), (5, _)]) (q := 42) dX4_wish_40 rfl (by decide) rfl ?_
      refine wk_bipush (q := 44) dX4_wish_42 rfl (by decide +kernel) ?_
      refine wk_istore (i := 6) (lo' := [(0, _), (1, _), (2, _), (3, _), (4, _), (5, _), (6, _)]) (q := 46) dX4_wish_44 rfl (by decide) rfl ?_
      refine wk_iconst (q := 47) dX4_wish_46 rfl ?_
      refine wk_istore (i := 7) (lo' := [(0, _), (1, _), (2, _), (3, _), (4, _), (5, _), (6, _), (7, _)]) (q := 49) dX4_wish_47 rfl (by decide) rfl ?_
      refine wk_iconst (q := 50) dX4_wish_49 rfl ?_
      refine wk_istore (i := 8) (lo' := [(0, _), (1, _), (2, _), (3, _), (4, _), (5, _), (6, _), (7, _), (8, _)]) (q := 52) dX4_wish_50 rfl (by decide) rfl ?_
      simp_all [wishN]
    · refine wk_bipush (q := 28) dX4_wish_26 rfl (by decide +kernel) ?_
      refine wk_goto (t := 32) dX4_wish_28 rfl ?_
      refine wk_istore (i := 4) (lo' := [(0, _), (1, _), (2, _), (3, _), (4, _)]) (q := 34) dX4_wish_32 rfl (by decide) rfl ?_
      refine wk_aload_n (i := 0) (q := 35) dX4_wish_34 rfl rfl rfl ?_
      refine wk_getR (fi := 4) (q := 38) dX4_wish_35 rfl fl_X4_30 rfl rfl hT.1.ob hT.1.r4 ?_
      refine wk_iload_n (i := 2) (q := 39) dX4_wish_38 rfl rfl rfl ?_
      refine wk_aald2 (q := 40) dX4_wish_39 rfl hT.1.s4 (by omega) (hT.1.w4 (by omega)) ?_
      refine wk_astore (i := 5) (lo' := [(0, _), (1, _), (2, _), (3, _), (4, _), (5, _)]) (q := 42) dX4_wish_40 rfl (by decide) rfl ?_
      refine wk_bipush (q := 44) dX4_wish_42 rfl (by decide +kernel) ?_
      refine wk_istore (i := 6) (lo' := [(0, _), (1, _), (2, _), (3, _), (4, _), (5, _), (6, _)]) (q := 46) dX4_wish_44 rfl (by decide) rfl ?_
      refine wk_iconst (q := 47) dX4_wish_46 rfl ?_
      refine wk_istore (i := 7) (lo' := [(0, _), (1, _), (2, _), (3, _), (4, _), (5, _), (6, _), (7, _)]) (q := 49) dX4_wish_47 rfl (by decide) rfl ?_
      refine wk_iconst (q := 50) dX4_wish_49 rfl ?_
      refine wk_istore (i := 8) (lo' := [(0, _), (1, _), (2, _), (3, _), (4, _), (5, _), (6, _), (7, _), (8, _)]) (q := 52) dX4_wish_50 rfl (by decide) rfl ?_
      simp_all [wishN]
end WISH
