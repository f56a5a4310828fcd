/-! the reference: what is asked for, a course, an evening -/
theorem frM.ev {I I' : qI} {m : Nat} (h : ∀ b i, ¬ (b = m ∧ i = 33) → b ≠ m + 20 → ¬ (m + 22 ≤ b ∧ b ≤ m + 25) → I' b i = I b i) : frM I I' m := h
theorem la_go {T : TT} (hT : T.ok) {C : CC} {c : Int} {e : ES} (hC : C.ok T) : ∀ k : Nat, (k : Int) ≤ C.se → ∀ s : Int, 0 ≤ s → s < k → (askN T C c k e).la (tgt C s) = (askN T C c k e).go c (tgt C s)
  | 0, _, s, h0, h1 => by omega
  | k + 1, hk, s, h0, h1 => by
    show u1 (askN T C c k e).la (tgt C k) (askD T C c k (askN T C c k e)) (tgt C s) = u2 (askN T C c k e).go c (tgt C k) (askD T C c k (askN T C c k e)) c (tgt C s)
    by_cases hs : s = k
    · subst hs
      rw [u1_eq, u2_eq]
    · have hne : tgt C s ≠ tgt C k := fun q => hs (tgt_inj hT hC ⟨h0, by omega⟩ ⟨by omega, by omega⟩ q)
      rw [u1_ne hne, u2_ne (Or.inr hne)]
      exact la_go hT hC k (by omega) s h0 (by omega)
section MODEL2
variable {l : Launch} {E : qEv} {n : Nat} {sh : qSh} {I L : qI} {R : qR}
theorem ct_X7_isAhead {m : Nat} {T : TT} {C : CC} {how h d o : Int} (hM : qMod E.2.2 n sh R m) (hok : T.ok) (hC : C.ok T) (hmT : mT I m T) (hmC : mC I m T C) (hhow : 0 ≤ how ∧ how ≤ 2) (hh : 0 ≤ h ∧ h < T.ng) (hd : 0 ≤ d ∧ d < T.nd) (ho : 0 ≤ o ∧ o < T.nd) (hwd : T.wo h d ≠ -1) (hwo : T.wo h o ≠ -1) :
    Ct l E 0 mX7_isAhead [.ref m, .int (zI how), .int (zI h), .int (zI d), .int (zI o)] (n, sh, I, L, R) 0 0 (qP n sh I L R (qBo (ahead T C how h d o))) := by
  have hn := hok.2.1
  have hnd := hok.2.2.2.1
  have e1 := (hmC.2.2.2.2 h hh.1 hh.2).2 d hd.1 hd.2 hwd
  have e2 := (hmC.2.2.2.2 h hh.1 hh.2).2 o ho.1 ho.2 hwo
  have e3 := (hmT.2.2.1 d hd.1 hd.2).2
  have e4 := (hmT.2.2.1 o ho.1 ho.2).2
  have b1 := (hC.2.2.2.2.2.2.2.2.2.2 h hh.1 hh.2).2.2 d hd.1 hd.2
  have b2 := (hC.2.2.2.2.2.2.2.2.2.2 h hh.1 hh.2).2.2 o ho.1 ho.2
  have b3 := (hok.2.2.2.2.1 d hd.1 hd.2).2
  have b4 := (hok.2.2.2.2.1 o ho.1 ho.2).2
  refine Ct.of (lo := [(0, _), (1, _), (2, _), (3, _), (4, _)]) ok_X7_isAhead (Nat.le_of_ble_eq_true rfl) rfl ?_
  refine wk_aload_n (i := 0) (q := 1) dX7_isAhead_0 rfl rfl rfl ?_
  refine wk_getR (fi := 13) (q := 4) dX7_isAhead_1 rfl fl_X7_37 rfl rfl hM.ob hM.r13 ?_
  refine wk_bipush (q := 6) dX7_isAhead_4 rfl (by decide +kernel) ?_
  refine wk_iload_n (i := 2) (q := 7) dX7_isAhead_6 rfl rfl rfl ?_
  refine wk_imul (q := 8) dX7_isAhead_7 rfl ?_
  refine wk_iload_n (i := 3) (q := 9) dX7_isAhead_8 rfl rfl rfl ?_
  refine wk_iadd (q := 10) dX7_isAhead_9 rfl ?_
  refine wk_iald (q := 11) dX7_isAhead_10 rfl hM.s13 (by omega) ?_
  refine wk_aload_n (i := 0) (q := 12) dX7_isAhead_11 rfl rfl rfl ?_
  refine wk_getR (fi := 13) (q := 15) dX7_isAhead_12 rfl fl_X7_37 rfl rfl hM.ob hM.r13 ?_
  refine wk_bipush (q := 17) dX7_isAhead_15 rfl (by decide +kernel) ?_
  refine wk_iload_n (i := 2) (q := 18) dX7_isAhead_17 rfl rfl rfl ?_
  refine wk_imul (q := 19) dX7_isAhead_18 rfl ?_
  refine wk_iload (i := 4) (q := 21) dX7_isAhead_19 rfl rfl ?_
  refine wk_iadd (q := 22) dX7_isAhead_21 rfl ?_
  refine wk_iald (q := 23) dX7_isAhead_22 rfl hM.s13 (by omega) ?_
  refine wk_isub (q := 24) dX7_isAhead_23 rfl ?_
  refine wk_istore (i := 5) (lo' := [(0, _), (1, _), (2, _), (3, _), (4, _), (5, _)]) (q := 26) dX7_isAhead_24 rfl (by decide) rfl ?_
  rw [e1, e2]
  refine wk_aload_n (i := 0) (q := 27) dX7_isAhead_26 rfl rfl rfl ?_
  refine wk_getR (fi := 8) (q := 30) dX7_isAhead_27 rfl fl_X7_22 rfl rfl hM.ob hM.r8 ?_
  refine wk_iload_n (i := 3) (q := 31) dX7_isAhead_30 rfl rfl rfl ?_
  refine wk_iald (q := 32) dX7_isAhead_31 rfl hM.s8 (by omega) ?_
  refine wk_aload_n (i := 0) (q := 33) dX7_isAhead_32 rfl rfl rfl ?_
  refine wk_getR (fi := 8) (q := 36) dX7_isAhead_33 rfl fl_X7_22 rfl rfl hM.ob hM.r8 ?_
  refine wk_iload (i := 4) (q := 38) dX7_isAhead_36 rfl rfl ?_
  refine wk_iald (q := 39) dX7_isAhead_38 rfl hM.s8 (by omega) ?_
  refine wk_isub (q := 40) dX7_isAhead_39 rfl ?_
  refine wk_istore (i := 6) (lo' := [(0, _), (1, _), (2, _), (3, _), (4, _), (5, _), (6, _)]) (q := 42) dX7_isAhead_40 rfl (by decide) rfl ?_
  rw [e3, e4]
  refine wk_iload_n (i := 1) (q := 43) dX7_isAhead_42 rfl rfl rfl ?_
  refine wk_if_ne (t := 75) (q := 46) dX7_isAhead_43 rfl rfl (by omega) (fun hc43 => ?_) (fun hc43 => ?_)
  · refine wk_iload_n (i := 1) (q := 76) dX7_isAhead_75 rfl rfl rfl ?_
    refine wk_iconst (q := 77) dX7_isAhead_76 rfl ?_
    refine wk_icmp_ne (t := 109) (q := 80) dX7_isAhead_77 rfl rfl (by omega) (by omega) (fun hc77 => ?_) (fun hc77 => ?_)
    · refine wk_iload (i := 5) (q := 111) dX7_isAhead_109 rfl rfl ?_
      refine wk_if_eq (t := 127) (q := 114) dX7_isAhead_111 rfl rfl (by omega) (fun hc111 => ?_) (fun hc111 => ?_)
      · refine wk_iload (i := 6) (q := 129) dX7_isAhead_127 rfl rfl ?_
        refine wk_if_ge (t := 136) (q := 132) dX7_isAhead_129 rfl rfl (by omega) (fun hc129 => ?_) (fun hc129 => ?_)
        · refine wk_iconst (q := 137) dX7_isAhead_136 rfl ?_
          refine wk_zret dX7_isAhead_137 rfl (by omega) ⟨Nat.le_refl _, Nat.le_refl _⟩ rfl ?_
          refine ⟨_, _, _, _, rfl, rfl, rfl, rfl, rfl, ?_⟩
          unfold qBo ahead
          omega
        · refine wk_iconst (q := 133) dX7_isAhead_132 rfl ?_
          refine wk_goto (t := 137) dX7_isAhead_133 rfl ?_
          refine wk_zret dX7_isAhead_137 rfl (by omega) ⟨Nat.le_refl _, Nat.le_refl _⟩ rfl ?_
          refine ⟨_, _, _, _, rfl, rfl, rfl, rfl, rfl, ?_⟩
          unfold qBo ahead
          omega
      · refine wk_iload (i := 5) (q := 116) dX7_isAhead_114 rfl rfl ?_
        refine wk_if_ge (t := 123) (q := 119) dX7_isAhead_116 rfl rfl (by omega) (fun hc116 => ?_) (fun hc116 => ?_)
        · refine wk_iconst (q := 124) dX7_isAhead_123 rfl ?_
          refine wk_goto (t := 137) dX7_isAhead_124 rfl ?_
          refine wk_zret dX7_isAhead_137 rfl (by omega) ⟨Nat.le_refl _, Nat.le_refl _⟩ rfl ?_
          refine ⟨_, _, _, _, rfl, rfl, rfl, rfl, rfl, ?_⟩
          unfold qBo ahead
          omega
        · refine wk_iconst (q := 120) dX7_isAhead_119 rfl ?_
          refine wk_goto (t := 137) dX7_isAhead_120 rfl ?_
          refine wk_zret dX7_isAhead_137 rfl (by omega) ⟨Nat.le_refl _, Nat.le_refl _⟩ rfl ?_
          refine ⟨_, _, _, _, rfl, rfl, rfl, rfl, rfl, ?_⟩
          unfold qBo ahead
          omega
    · refine wk_iload (i := 6) (q := 82) dX7_isAhead_80 rfl rfl ?_
      refine wk_if_eq (t := 98) (q := 85) dX7_isAhead_82 rfl rfl (by omega) (fun hc82 => ?_) (fun hc82 => ?_)
      · refine wk_iload (i := 5) (q := 100) dX7_isAhead_98 rfl rfl ?_
        refine wk_if_le (t := 107) (q := 103) dX7_isAhead_100 rfl rfl (by omega) (fun hc100 => ?_) (fun hc100 => ?_)
        · refine wk_iconst (q := 108) dX7_isAhead_107 rfl ?_
          refine wk_zret dX7_isAhead_108 rfl (by omega) ⟨Nat.le_refl _, Nat.le_refl _⟩ rfl ?_
          refine ⟨_, _, _, _, rfl, rfl, rfl, rfl, rfl, ?_⟩
          unfold qBo ahead
          omega
        · refine wk_iconst (q := 104) dX7_isAhead_103 rfl ?_
          refine wk_goto (t := 108) dX7_isAhead_104 rfl ?_
          refine wk_zret dX7_isAhead_108 rfl (by omega) ⟨Nat.le_refl _, Nat.le_refl _⟩ rfl ?_
          refine ⟨_, _, _, _, rfl, rfl, rfl, rfl, rfl, ?_⟩
          unfold qBo ahead
          omega
      · refine wk_iload (i := 6) (q := 87) dX7_isAhead_85 rfl rfl ?_
        refine wk_if_ge (t := 94) (q := 90) dX7_isAhead_87 rfl rfl (by omega) (fun hc87 => ?_) (fun hc87 => ?_)
        · refine wk_iconst (q := 95) dX7_isAhead_94 rfl ?_
          refine wk_goto (t := 108) dX7_isAhead_95 rfl ?_
          refine wk_zret dX7_isAhead_108 rfl (by omega) ⟨Nat.le_refl _, Nat.le_refl _⟩ rfl ?_
          refine ⟨_, _, _, _, rfl, rfl, rfl, rfl, rfl, ?_⟩
          unfold qBo ahead
          omega
        · refine wk_iconst (q := 91) dX7_isAhead_90 rfl ?_
          refine wk_goto (t := 108) dX7_isAhead_91 rfl ?_
          refine wk_zret dX7_isAhead_108 rfl (by omega) ⟨Nat.le_refl _, Nat.le_refl _⟩ rfl ?_
          refine ⟨_, _, _, _, rfl, rfl, rfl, rfl, rfl, ?_⟩
          unfold qBo ahead
          omega
  · refine wk_iload (i := 5) (q := 48) dX7_isAhead_46 rfl rfl ?_
    refine wk_if_eq (t := 64) (q := 51) dX7_isAhead_48 rfl rfl (by omega) (fun hc48 => ?_) (fun hc48 => ?_)
    · refine wk_iload (i := 6) (q := 66) dX7_isAhead_64 rfl rfl ?_
      refine wk_if_ge (t := 73) (q := 69) dX7_isAhead_66 rfl rfl (by omega) (fun hc66 => ?_) (fun hc66 => ?_)
      · refine wk_iconst (q := 74) dX7_isAhead_73 rfl ?_
        refine wk_zret dX7_isAhead_74 rfl (by omega) ⟨Nat.le_refl _, Nat.le_refl _⟩ rfl ?_
        refine ⟨_, _, _, _, rfl, rfl, rfl, rfl, rfl, ?_⟩
        unfold qBo ahead
        omega
      · refine wk_iconst (q := 70) dX7_isAhead_69 rfl ?_
        refine wk_goto (t := 74) dX7_isAhead_70 rfl ?_
        refine wk_zret dX7_isAhead_74 rfl (by omega) ⟨Nat.le_refl _, Nat.le_refl _⟩ rfl ?_
        refine ⟨_, _, _, _, rfl, rfl, rfl, rfl, rfl, ?_⟩
        unfold qBo ahead
        omega
    · refine wk_iload (i := 5) (q := 53) dX7_isAhead_51 rfl rfl ?_
      refine wk_if_le (t := 60) (q := 56) dX7_isAhead_53 rfl rfl (by omega) (fun hc53 => ?_) (fun hc53 => ?_)
      · refine wk_iconst (q := 61) dX7_isAhead_60 rfl ?_
        refine wk_goto (t := 74) dX7_isAhead_61 rfl ?_
        refine wk_zret dX7_isAhead_74 rfl (by omega) ⟨Nat.le_refl _, Nat.le_refl _⟩ rfl ?_
        refine ⟨_, _, _, _, rfl, rfl, rfl, rfl, rfl, ?_⟩
        unfold qBo ahead
        omega
      · refine wk_iconst (q := 57) dX7_isAhead_56 rfl ?_
        refine wk_goto (t := 74) dX7_isAhead_57 rfl ?_
        refine wk_zret dX7_isAhead_74 rfl (by omega) ⟨Nat.le_refl _, Nat.le_refl _⟩ rfl ?_
        refine ⟨_, _, _, _, rfl, rfl, rfl, rfl, rfl, ?_⟩
        unfold qBo ahead
        omega
theorem ct_X7_asked {m : Nat} {T : TT} {C : CC} {e : ES} {g h c : Int} (hM : qMod E.2.2 n sh R m) (hok : T.ok) (hC : C.ok T) (hmT : mT I m T) (hmC : mC I m T C) (hmE : mE I m T e) (hES : ESok T e) (hg : 0 ≤ g ∧ g < T.ng) (hh : 0 ≤ h ∧ h < T.ng) (hc : 0 ≤ c ∧ c < 8) (hsp : I m 33 = mS C) :
    Ct l E 2 mX7_asked [.ref m, .int (zI g), .int (zI h), .int (zI c)] (n, sh, I, L, R) 0 0 (qP n sh I L R (fun v => v = wish T C (manner T C (spc C c) e.la g) h e.le)) := by
  have hn := hok.2.1
  have hnd := hok.2.2.2.1
  have hnd0 := hok.2.2.1
  have e0 := hmT.2.1
  have e1 := (hmT.2.2.2 h hh.1 hh.2).2.2.2
  have b1 := (hok.2.2.2.2.2 h hh.1 hh.2).2.2.2.2.2.2
  obtain ⟨how, hhow⟩ : ∃ how, how = manner T C (spc C c) e.la g := ⟨_, rfl⟩
  have hmi := manner_in hC (spc C c) e.la hg
  rw [← hhow] at hmi
  rw [← hhow]
  have loop : ∀ k : Nat, k ≤ T.nd.toNat → Wk l E (qmo E 2 n 0 0 (qP n sh I L R (fun v => v = wish T C how h e.le))) mX7_asked 0 0 15
      [(0, .ref m), (1, .int (zI g)), (2, .int (zI h)), (3, .int (zI c)), (4, .int (zI how)), (5, .int (zI (wishN T C how h e.le k))), (6, .int (zI (k : Int)))] [] (n, sh, I, L, R) := by
    refine up_ind T.nd.toNat ?_ ?_
    · skip
      refine wk_iload (i := 6) (q := 17) dX7_asked_15 rfl rfl ?_
      refine wk_aload_n (i := 0) (q := 18) dX7_asked_17 rfl rfl rfl ?_
      refine wk_getI (fi := 6) (q := 21) dX7_asked_18 rfl fl_X7_128 rfl rfl hM.ob ?_
      refine wk_icmp_ge (t := 81) (q := 24) dX7_asked_21 rfl rfl (by omega) (by omega) (fun hc21 => ?_) (fun hc21 => ?_)
      · refine wk_iload (i := 5) (q := 83) dX7_asked_81 rfl rfl ?_
        refine wk_iret dX7_asked_83 rfl ⟨Nat.le_refl _, Nat.le_refl _⟩ rfl ?_
        refine ⟨_, _, _, _, rfl, rfl, rfl, rfl, rfl, ?_⟩
        rfl
      · omega
    · intro k hk ih
      have hw := wishN_in T C how h e.le k
      have ek := e1 k (by omega) (by omega)
      have bk := b1 k (by omega) (by omega)
      have lk := hmE.1 k (by omega) (by omega)
      have lk2 := hES.1 k (by omega) (by omega)
      have keep : (¬ (0 < e.le k ∧ T.wo h k ≠ -1 ∧ (wishN T C how h e.le k = -9 ∨ ahead T C how h k (wishN T C how h e.le k)))) → Wk l E (qmo E 2 n 0 0 (qP n sh I L R (fun v => v = wish T C how h e.le))) mX7_asked 0 0 75
          [(0, .ref m), (1, .int (zI g)), (2, .int (zI h)), (3, .int (zI c)), (4, .int (zI how)), (5, .int (zI (wishN T C how h e.le k))), (6, .int (zI (k : Int)))] [] (n, sh, I, L, R) := by
        intro hq
        rw [wishN_keep hq] at ih
        refine wk_iinc (lo' := [(0, _), (1, _), (2, _), (3, _), (4, _), (5, _), (6, _)]) (q := 78) dX7_asked_75 rfl rfl (by decide) rfl ?_
        refine wk_goto (t := 15) dX7_asked_78 rfl ?_
        exact ih
      have take : 0 < e.le k → T.wo h k ≠ -1 → (wishN T C how h e.le k = -9 ∨ ahead T C how h k (wishN T C how h e.le k)) → Wk l E (qmo E 2 n 0 0 (qP n sh I L R (fun v => v = wish T C how h e.le))) mX7_asked 0 0 71
          [(0, .ref m), (1, .int (zI g)), (2, .int (zI h)), (3, .int (zI c)), (4, .int (zI how)), (5, .int (zI (wishN T C how h e.le k))), (6, .int (zI (k : Int)))] [] (n, sh, I, L, R) := by
        intro q1 q2 q3
        rw [wishN_take q1 q2 q3] at ih
        refine wk_iload (i := 6) (q := 73) dX7_asked_71 rfl rfl ?_
        refine wk_istore (i := 5) (lo' := [(0, _), (1, _), (2, _), (3, _), (4, _), (5, _), (6, _)]) (q := 75) dX7_asked_73 rfl (by decide) rfl ?_
        refine wk_iinc (lo' := [(0, _), (1, _), (2, _), (3, _), (4, _), (5, _), (6, _)]) (q := 78) dX7_asked_75 rfl rfl (by decide) rfl ?_
        refine wk_goto (t := 15) dX7_asked_78 rfl ?_
        exact ih
      refine wk_iload (i := 6) (q := 17) dX7_asked_15 rfl rfl ?_
      refine wk_aload_n (i := 0) (q := 18) dX7_asked_17 rfl rfl rfl ?_
      refine wk_getI (fi := 6) (q := 21) dX7_asked_18 rfl fl_X7_128 rfl rfl hM.ob ?_
      refine wk_icmp_ge (t := 81) (q := 24) dX7_asked_21 rfl rfl (by omega) (by omega) (fun hc21 => ?_) (fun hc21 => ?_)
      · omega
      · refine wk_aload_n (i := 0) (q := 25) dX7_asked_24 rfl rfl rfl ?_
        refine wk_getR (fi := 37) (q := 28) dX7_asked_25 rfl fl_X7_82 rfl rfl hM.ob hM.r37 ?_
        refine wk_iload (i := 6) (q := 30) dX7_asked_28 rfl rfl ?_
        refine wk_iald (q := 31) dX7_asked_30 rfl hM.s37 (by omega) ?_
        refine wk_if_le (t := 75) (q := 34) dX7_asked_31 rfl rfl (by omega) (fun hc31 => ?_) (fun hc31 => ?_)
        · first
          | exact keep (fun q => by omega)
          | exact keep (fun q => q.2.2.elim (fun z => by omega) hv65)
        · refine wk_aload_n (i := 0) (q := 35) dX7_asked_34 rfl rfl rfl ?_
          refine wk_getR (fi := 12) (q := 38) dX7_asked_35 rfl fl_X7_34 rfl rfl hM.ob hM.r12 ?_
          refine wk_bipush (q := 40) dX7_asked_38 rfl (by decide +kernel) ?_
          refine wk_iload_n (i := 2) (q := 41) dX7_asked_40 rfl rfl rfl ?_
          refine wk_imul (q := 42) dX7_asked_41 rfl ?_
          refine wk_iload (i := 6) (q := 44) dX7_asked_42 rfl rfl ?_
          refine wk_iadd (q := 45) dX7_asked_44 rfl ?_
          refine wk_iald (q := 46) dX7_asked_45 rfl hM.s12 (by omega) ?_
          refine wk_iconst (q := 47) dX7_asked_46 rfl ?_
          refine wk_icmp_eq (t := 75) (q := 50) dX7_asked_47 rfl rfl (by omega) (by omega) (fun hc47 => ?_) (fun hc47 => ?_)
          · first
            | exact keep (fun q => by omega)
            | exact keep (fun q => q.2.2.elim (fun z => by omega) hv65)
          · refine wk_iload (i := 5) (q := 52) dX7_asked_50 rfl rfl ?_
            refine wk_bipush (q := 54) dX7_asked_52 rfl (by decide +kernel) ?_
            refine wk_icmp_eq (t := 71) (q := 57) dX7_asked_54 rfl rfl (by omega) (by omega) (fun hc54 => ?_) (fun hc54 => ?_)
            · first
              | exact take (by omega) (by omega) (Or.inl hc54)
              | exact take (by omega) (by omega) (Or.inr hv65)
            · refine wk_aload_n (i := 0) (q := 58) dX7_asked_57 rfl rfl rfl ?_
              refine wk_iload (i := 4) (q := 60) dX7_asked_58 rfl rfl ?_
              refine wk_iload_n (i := 2) (q := 61) dX7_asked_60 rfl rfl rfl ?_
              refine wk_iload (i := 6) (q := 63) dX7_asked_61 rfl rfl ?_
              refine wk_iload (i := 5) (q := 65) dX7_asked_63 rfl rfl ?_
              refine wk_cP4 (q := 68) dX7_asked_65 rfl vl_X7_209 ⟨_, _, rfl⟩ hM.ob (ct_X7_isAhead hM hok hC hmT hmC hmi hh (by omega) (by omega) (by omega) (by omega)) (qRo_m ok_X7_isAhead (by decide) (Nat.le_refl _) (Nat.le_refl _)) (Nat.le_of_ble_eq_true rfl) (fun v65 hv65 => ?_)
              rcases hv65 with ⟨rfl, hv65⟩ | ⟨rfl, hv65⟩
              · refine wk_if_eq (t := 75) (q := 71) dX7_asked_68 rfl rfl (by omega) (fun hq => absurd hq (by decide)) (fun _ => ?_)
                first
                | exact take (by omega) (by omega) (Or.inl hc54)
                | exact take (by omega) (by omega) (Or.inr hv65)
              · refine wk_if_eq (t := 75) (q := 71) dX7_asked_68 rfl rfl (by omega) (fun _ => ?_) (fun hq => absurd hq (by decide))
                first
                | exact keep (fun q => by omega)
                | exact keep (fun q => q.2.2.elim (fun z => by omega) hv65)
  refine Ct.of (lo := [(0, _), (1, _), (2, _), (3, _)]) ok_X7_asked (Nat.le_of_ble_eq_true rfl) rfl ?_
  have loop0 := loop 0 (Nat.zero_le _)
  refine wk_aload_n (i := 0) (q := 1) dX7_asked_0 rfl rfl rfl ?_
  refine wk_iload_n (i := 1) (q := 2) dX7_asked_1 rfl rfl rfl ?_
  refine wk_iload_n (i := 3) (q := 3) dX7_asked_2 rfl rfl rfl ?_
  refine wk_cP2 (q := 6) dX7_asked_3 rfl vl_X7_206 ⟨_, _, rfl⟩ hM.ob (ct_X7_howAsks (la := e.la) hM hok hC hmT hmC hg hc hsp (hmE.2 g hg.1 hg.2).1 (hES.2 g hg.1 hg.2)) (qRo_m ok_X7_howAsks (by decide) (Nat.le_refl _) (Nat.le_refl _)) (Nat.le_of_ble_eq_true rfl) (fun v3 hv3 => ?_)
  rw [← hhow] at hv3
  subst hv3
  refine wk_istore (i := 4) (lo' := [(0, _), (1, _), (2, _), (3, _), (4, _)]) (q := 8) dX7_asked_6 rfl (by decide) rfl ?_
  refine wk_bipush (q := 10) dX7_asked_8 rfl (by decide +kernel) ?_
  refine wk_istore (i := 5) (lo' := [(0, _), (1, _), (2, _), (3, _), (4, _), (5, _)]) (q := 12) dX7_asked_10 rfl (by decide) rfl ?_
  refine wk_iconst (q := 13) dX7_asked_12 rfl ?_
  refine wk_istore (i := 6) (lo' := [(0, _), (1, _), (2, _), (3, _), (4, _), (5, _), (6, _)]) (q := 15) dX7_asked_13 rfl (by decide) rfl ?_
  exact loop0
theorem ct_X7_refill {m : Nat} {T : TT} (hM : qMod E.2.2 n sh R m) (hok : T.ok) (hmT : mT I m T) :
    Ct l E 0 mX7_refill [.ref m] (n, sh, I, L, R) 0 0 (qV n sh (fun I' L' R' => L' = L ∧ R' = R ∧ (∀ b i, b ≠ m + 25 → I' b i = I b i) ∧ ∀ d, 0 ≤ d → d < T.nd → I' (m + 25) d = T.mn d)) := by
  have hnd := hok.2.2.2.1
  have hnd0 := hok.2.2.1
  have loop : ∀ k : Nat, k ≤ T.nd.toNat → ∀ I1 : qI, ((∀ b i, b ≠ m + 25 → I1 b i = I b i) ∧ ∀ d : Int, 0 ≤ d → d < k → I1 (m + 25) d = T.mn d) → Wk l E (qmo E 0 n 0 0 (qV n sh (fun I' L' R' => L' = L ∧ R' = R ∧ (∀ b i, b ≠ m + 25 → I' b i = I b i) ∧ ∀ d, 0 ≤ d → d < T.nd → I' (m + 25) d = T.mn d))) mX7_refill 0 0 2
      [(0, .ref m), (1, .int (zI (k : Int)))] [] (n, sh, I1, L, R) := by
    refine up_ind T.nd.toNat ?_ ?_
    · rintro I1 ⟨f1, f2⟩
      have e0 : I1 m 6 = T.nd := by rw [f1 _ _ (by omega)]; exact hmT.2.1
      refine wk_iload_n (i := 1) (q := 3) dX7_refill_2 rfl rfl rfl ?_
      refine wk_aload_n (i := 0) (q := 4) dX7_refill_3 rfl rfl rfl ?_
      refine wk_getI (fi := 6) (q := 7) dX7_refill_4 rfl fl_X7_128 rfl rfl hM.ob ?_
      refine wk_icmp_ge (t := 28) (q := 10) dX7_refill_7 rfl rfl (by omega) (by omega) (fun hc7 => ?_) (fun hc7 => ?_)
      · refine wk_ret dX7_refill_28 rfl ⟨Nat.le_refl _, Nat.le_refl _⟩ rfl ?_
        exact ⟨_, _, _, rfl, rfl, rfl, rfl, f1, fun d d0 d1 => f2 d d0 (by omega)⟩
      · omega
    · rintro k hk ih I1 ⟨f1, f2⟩
      have e0 : I1 m 6 = T.nd := by rw [f1 _ _ (by omega)]; exact hmT.2.1
      refine wk_iload_n (i := 1) (q := 3) dX7_refill_2 rfl rfl rfl ?_
      refine wk_aload_n (i := 0) (q := 4) dX7_refill_3 rfl rfl rfl ?_
      refine wk_getI (fi := 6) (q := 7) dX7_refill_4 rfl fl_X7_128 rfl rfl hM.ob ?_
      refine wk_icmp_ge (t := 28) (q := 10) dX7_refill_7 rfl rfl (by omega) (by omega) (fun hc7 => ?_) (fun hc7 => ?_)
      · omega
      · refine wk_aload_n (i := 0) (q := 11) dX7_refill_10 rfl rfl rfl ?_
        refine wk_getR (fi := 37) (q := 14) dX7_refill_11 rfl fl_X7_82 rfl rfl hM.ob hM.r37 ?_
        refine wk_iload_n (i := 1) (q := 15) dX7_refill_14 rfl rfl rfl ?_
        refine wk_aload_n (i := 0) (q := 16) dX7_refill_15 rfl rfl rfl ?_
        refine wk_getR (fi := 7) (q := 19) dX7_refill_16 rfl fl_X7_19 rfl rfl hM.ob hM.r7 ?_
        refine wk_iload_n (i := 1) (q := 20) dX7_refill_19 rfl rfl rfl ?_
        refine wk_iald (q := 21) dX7_refill_20 rfl hM.s7 (by omega) ?_
        rw [f1 _ _ (by omega), (hmT.2.2.1 k (by omega) (by omega)).1]
        refine wk_iast (q := 22) dX7_refill_21 rfl hM.s37 (by omega) ?_
        refine wk_iinc (lo' := [(0, _), (1, _)]) (q := 25) dX7_refill_22 rfl rfl (by decide) rfl ?_
        refine wk_goto (t := 2) dX7_refill_25 rfl ?_
        refine ih _ ⟨fun b i q => by rw [up_na _ _ _ _ q, f1 b i q], fun d d0 d1 => ?_⟩
        by_cases hd : d = k
        · rw [hd, up_eq]
        · rw [up_ni _ _ hd, f2 d d0 (by omega)]
  refine Ct.of (lo := [(0, _)]) ok_X7_refill (Nat.le_of_ble_eq_true rfl) rfl ?_
  have loop0 := loop 0 (Nat.zero_le _) I ⟨fun _ _ _ => rfl, fun d d0 d1 => by omega⟩
  refine wk_iconst (q := 1) dX7_refill_0 rfl ?_
  refine wk_istore_n (i := 1) (lo' := [(0, _), (1, _)]) (q := 2) dX7_refill_1 rfl rfl (by decide) rfl ?_
  exact loop0
end MODEL2
