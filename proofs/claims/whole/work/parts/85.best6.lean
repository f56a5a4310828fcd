/-! BEST, the reference's parts -/
theorem mfP.bd {T : TT} {wt mf : Int → Int} (h : mfP T wt mf) : ∀ k : Nat, ∀ g : Nat, (g : Int) + k = T.ng → 0 ≤ mf g ∧ mf g ≤ 171 * k
  | 0, g, e => by
    have e2 : mf (g : Int) = 0 := by
      rw [show (g : Int) = T.ng by omega]
      exact h.1
    omega
  | k + 1, g, e => by
    have ih := mfP.bd h k (g + 1) (by omega)
    obtain ⟨a, b, c⟩ := h.2 g (by omega)
    have z : mf (((g + 1 : Nat) : Int)) = mf ((g : Int) + 1) := rfl
    omega
section BEST6
variable {l : Launch} {E : qEv} {n : Nat} {sh : qSh} {I L : qI} {R : qR}
theorem ct_X7_layWeights {m : Nat} {T : TT} {C : CC} {la : Int → Int} (hM : qMod E.2.2 n sh R m) (hok : T.ok) (hC : C.now T) (hmT : mT I m T) (hN : mNow I m T C la) :
    Ct l E 0 mX7_layWeights [.ref m] (n, sh, I, L, R) 0 0 (qV n sh (fun I' L' R' => L' = L ∧ R' = R ∧ (∀ c i, c ≠ m + 26 → c ≠ m + 29 → I' c i = I c i) ∧ isWt T C (I' (m + 26)) ∧ mfP T (I' (m + 26)) (I' (m + 29)))) := by
  have hng := hok.2.1
  have hng0 := hok.1
  have hnd := hok.2.2.2.1
  have hnd0 := hok.2.2.1
  have hse := hC.2.1
  have hst := hC.1.2.2.1
  have hst2 := hC.1.2.2.2.1
  have stage2 : ∀ I0 : qI, (∀ c i, c ≠ m + 26 → c ≠ m + 29 → I0 c i = I c i) → isWt T C (I0 (m + 26)) → ∀ k : Nat, (k : Int) ≤ T.ng → ∀ I1 : qI, (∀ c i, c ≠ m + 29 → I1 c i = I0 c i) → I1 (m + 29) T.ng = 0 → (∀ g : Nat, k ≤ g → (g : Int) < T.ng → I1 (m + 29) ((g : Int) + 1) ≤ I1 (m + 29) g ∧ I1 (m + 29) g ≤ I1 (m + 29) ((g : Int) + 1) + 171 ∧ ∀ d, 0 ≤ d → d < T.nd → I1 (m + 29) ((g : Int) + 1) + T.wo g d * I0 (m + 26) g ≤ I1 (m + 29) g) → Wk l E (qmo E 0 n 0 0 (qV n sh (fun I' L' R' => L' = L ∧ R' = R ∧ (∀ c i, c ≠ m + 26 → c ≠ m + 29 → I' c i = I c i) ∧ isWt T C (I' (m + 26)) ∧ mfP T (I' (m + 26)) (I' (m + 29))))) mX7_layWeights 0 0 68
      [(0, .ref m), (1, .int (zI ((k : Int) - 1)))] [] (n, sh, I1, L, R) := by
    intro I0 f0 hwt k
    have hw := hwt.bd hok hC
    induction k with
    | zero =>
      intro hk I1 f1 f2 f3
      refine wk_iload_n (i := 1) (q := 69) dX7_layWeights_68 rfl rfl rfl ?_
      refine wk_if_lt (t := 145) (q := 72) dX7_layWeights_69 rfl rfl (by omega) (fun hc69 => ?_) (fun hc69 => ?_)
      · refine wk_ret dX7_layWeights_145 rfl ⟨Nat.le_refl _, Nat.le_refl _⟩ rfl ?_
        refine ⟨_, _, _, rfl, rfl, rfl, rfl, fun c i q1 q2 => (f1 c i q2).trans (f0 c i q1 q2), ?_, ?_⟩
        · rw [show I1 (m + 26) = I0 (m + 26) from funext fun i => f1 _ _ (by omega)]
          exact hwt
        · rw [show I1 (m + 26) = I0 (m + 26) from funext fun i => f1 _ _ (by omega)]
          exact ⟨f2, fun g hg => f3 g (by omega) hg⟩
      · omega
    | succ k ihk =>
      intro hk I1 f1 f2 f3
      have hmT1 : mT I1 m T := hmT.cg (fun c i q => (f1 c i (by omega)).trans (f0 c i (by omega) (by omega)))
      have e6 := hmT1.2.1
      have hwk := hw k (by omega)
      have ew : I1 (m + 26) (k : Int) = I0 (m + 26) k := f1 _ _ (by omega)
      have inner : ∀ d : Nat, d ≤ T.nd.toNat → ∀ most : Int, 0 ≤ most ∧ most ≤ 171 → (∀ e, 0 ≤ e → e < (d : Int) → T.wo k e * I0 (m + 26) k ≤ most) → Wk l E (qmo E 0 n 0 0 (qV n sh (fun I' L' R' => L' = L ∧ R' = R ∧ (∀ c i, c ≠ m + 26 → c ≠ m + 29 → I' c i = I c i) ∧ isWt T C (I' (m + 26)) ∧ mfP T (I' (m + 26)) (I' (m + 29))))) mX7_layWeights 0 0 76
          [(0, .ref m), (1, .int (zI (k : Int))), (2, .int (zI most)), (3, .int (zI (d : Int)))] [] (n, sh, I1, L, R) := by
        refine up_ind T.nd.toNat ?_ ?_
        · intro most b1 b2
          refine wk_iload_n (i := 3) (q := 77) dX7_layWeights_76 rfl rfl rfl ?_
          refine wk_aload_n (i := 0) (q := 78) dX7_layWeights_77 rfl rfl rfl ?_
          refine wk_getI (fi := 6) (q := 81) dX7_layWeights_78 rfl fl_X7_128 rfl rfl hM.ob ?_
          refine wk_icmp_ge (t := 123) (q := 84) dX7_layWeights_81 rfl rfl (by omega) (by omega) (fun hc81 => ?_) (fun hc81 => ?_)
          · refine wk_aload_n (i := 0) (q := 124) dX7_layWeights_123 rfl rfl rfl ?_
            refine wk_getR (fi := 41) (q := 127) dX7_layWeights_124 rfl fl_X7_94 rfl rfl hM.ob hM.r41 ?_
            refine wk_iload_n (i := 1) (q := 128) dX7_layWeights_127 rfl rfl rfl ?_
            refine wk_aload_n (i := 0) (q := 129) dX7_layWeights_128 rfl rfl rfl ?_
            refine wk_getR (fi := 41) (q := 132) dX7_layWeights_129 rfl fl_X7_94 rfl rfl hM.ob hM.r41 ?_
            refine wk_iload_n (i := 1) (q := 133) dX7_layWeights_132 rfl rfl rfl ?_
            refine wk_iconst (q := 134) dX7_layWeights_133 rfl ?_
            refine wk_iadd (q := 135) dX7_layWeights_134 rfl ?_
            refine wk_iald (q := 136) dX7_layWeights_135 rfl hM.s41 (by omega) ?_
            refine wk_iload_n (i := 2) (q := 137) dX7_layWeights_136 rfl rfl rfl ?_
            refine wk_iadd (q := 138) dX7_layWeights_137 rfl ?_
            refine wk_iast (q := 139) dX7_layWeights_138 rfl hM.s41 (by omega) ?_
            refine wk_iinc (lo' := [(0, _), (1, _), (2, _), (3, _)]) (q := 142) dX7_layWeights_139 rfl rfl (by decide) rfl ?_
            refine wk_goto (t := 68) dX7_layWeights_142 rfl ?_
            refine wk_del (i := 3) (lo' := [(0, _), (1, _), (2, _)]) rfl ?_
            refine wk_del (i := 2) (lo' := [(0, _), (1, _)]) rfl ?_
            have ih' := ihk (by omega) (up I1 (m + 29) (k : Int) (I1 (m + 29) ((k : Int) + 1) + most)) (fun c i q => by rw [up_na _ _ _ _ q]; exact f1 c i q) (by rw [up_ni _ _ (by omega)]; exact f2) (fun g h1 h2 => by
              rw [up_ni _ _ (show (g : Int) + 1 ≠ (k : Int) by omega)]
              by_cases e : g = k
              · subst e
                rw [up_eq]
                exact ⟨by omega, by omega, fun d d0 d1 => by have := b2 d d0 (by omega); omega⟩
              · rw [up_ni _ _ (by omega)]
                exact f3 g (by omega) h2)
            exact ih'
          · omega
        · intro d hd ih most b1 b2
          have eo : I1 (m + 9) (6 * (k : Int) + (d : Int)) = T.wo k d := (hmT1.2.2.2 k (by omega) (by omega)).2.2.2 d (by omega) (by omega)
          have ob := (hok.2.2.2.2.2 k (by omega) (by omega)).2.2.2.2.2.2 d (by omega) (by omega)
          have hp : -19 ≤ T.wo k d * I0 (m + 26) k ∧ T.wo k d * I0 (m + 26) k ≤ 171 := by
            by_cases q : T.wo k d = -1
            · rw [q]
              omega
            · have := mul_in (A := 9) (B := 19) (show 0 ≤ T.wo k d ∧ T.wo k d ≤ 9 by omega) (show 0 ≤ I0 (m + 26) (k : Int) ∧ I0 (m + 26) (k : Int) ≤ 19 by omega)
              omega
          have nx : ∀ v : Int, most ≤ v → T.wo k d * I0 (m + 26) k ≤ v → ∀ e, 0 ≤ e → e < ((d + 1 : Nat) : Int) → T.wo k e * I0 (m + 26) k ≤ v := fun v v1 v2 e e0 e1 => by
            by_cases z : e = (d : Int)
            · subst z
              exact v2
            · have := b2 e e0 (by omega)
              omega
          refine wk_iload_n (i := 3) (q := 77) dX7_layWeights_76 rfl rfl rfl ?_
          refine wk_aload_n (i := 0) (q := 78) dX7_layWeights_77 rfl rfl rfl ?_
          refine wk_getI (fi := 6) (q := 81) dX7_layWeights_78 rfl fl_X7_128 rfl rfl hM.ob ?_
          refine wk_icmp_ge (t := 123) (q := 84) dX7_layWeights_81 rfl rfl (by omega) (by omega) (fun hc81 => ?_) (fun hc81 => ?_)
          · omega
          · refine wk_aload_n (i := 0) (q := 85) dX7_layWeights_84 rfl rfl rfl ?_
            refine wk_getR (fi := 12) (q := 88) dX7_layWeights_85 rfl fl_X7_34 rfl rfl hM.ob hM.r12 ?_
            refine wk_bipush (q := 90) dX7_layWeights_88 rfl (by decide +kernel) ?_
            refine wk_iload_n (i := 1) (q := 91) dX7_layWeights_90 rfl rfl rfl ?_
            refine wk_imul (q := 92) dX7_layWeights_91 rfl ?_
            refine wk_iload_n (i := 3) (q := 93) dX7_layWeights_92 rfl rfl rfl ?_
            refine wk_iadd (q := 94) dX7_layWeights_93 rfl ?_
            refine wk_iald (q := 95) dX7_layWeights_94 rfl hM.s12 (by omega) ?_
            refine wk_aload_n (i := 0) (q := 96) dX7_layWeights_95 rfl rfl rfl ?_
            refine wk_getR (fi := 38) (q := 99) dX7_layWeights_96 rfl fl_X7_85 rfl rfl hM.ob hM.r38 ?_
            refine wk_iload_n (i := 1) (q := 100) dX7_layWeights_99 rfl rfl rfl ?_
            refine wk_iald (q := 101) dX7_layWeights_100 rfl hM.s38 (by omega) ?_
            rw [eo, ew]
            refine wk_imul (q := 102) dX7_layWeights_101 rfl ?_
            refine wk_istore (i := 4) (lo' := [(0, _), (1, _), (2, _), (3, _), (4, _)]) (q := 104) dX7_layWeights_102 rfl (by decide) rfl ?_
            refine wk_iload (i := 4) (q := 106) dX7_layWeights_104 rfl rfl ?_
            refine wk_iload_n (i := 2) (q := 107) dX7_layWeights_106 rfl rfl rfl ?_
            refine wk_icmp_le (t := 115) (q := 110) dX7_layWeights_107 rfl rfl (by omega) (by omega) (fun hc107 => ?_) (fun hc107 => ?_)
            · refine wk_iload_n (i := 2) (q := 116) dX7_layWeights_115 rfl rfl rfl ?_
              refine wk_istore_n (i := 2) (lo' := [(0, _), (1, _), (2, _), (3, _), (4, _)]) (q := 117) dX7_layWeights_116 rfl rfl (by decide) rfl ?_
              refine wk_iinc (lo' := [(0, _), (1, _), (2, _), (3, _), (4, _)]) (q := 120) dX7_layWeights_117 rfl rfl (by decide) rfl ?_
              refine wk_goto (t := 76) dX7_layWeights_120 rfl ?_
              refine wk_del (i := 4) (lo' := [(0, _), (1, _), (2, _), (3, _)]) rfl ?_
              skip
              first
                | exact ih _ (by omega) (nx _ (by omega) (by omega))
            · refine wk_iload (i := 4) (q := 112) dX7_layWeights_110 rfl rfl ?_
              refine wk_goto (t := 116) dX7_layWeights_112 rfl ?_
              refine wk_istore_n (i := 2) (lo' := [(0, _), (1, _), (2, _), (3, _), (4, _)]) (q := 117) dX7_layWeights_116 rfl rfl (by decide) rfl ?_
              refine wk_iinc (lo' := [(0, _), (1, _), (2, _), (3, _), (4, _)]) (q := 120) dX7_layWeights_117 rfl rfl (by decide) rfl ?_
              refine wk_goto (t := 76) dX7_layWeights_120 rfl ?_
              refine wk_del (i := 4) (lo' := [(0, _), (1, _), (2, _), (3, _)]) rfl ?_
              skip
              first
                | exact ih _ (by omega) (nx _ (by omega) (by omega))
      have ek : (((k + 1 : Nat) : Int) - 1) = (k : Int) := by omega
      rw [ek]
      refine wk_iload_n (i := 1) (q := 69) dX7_layWeights_68 rfl rfl rfl ?_
      refine wk_if_lt (t := 145) (q := 72) dX7_layWeights_69 rfl rfl (by omega) (fun hc69 => ?_) (fun hc69 => ?_)
      · omega
      · refine wk_iconst (q := 73) dX7_layWeights_72 rfl ?_
        refine wk_istore_n (i := 2) (lo' := [(0, _), (1, _), (2, _)]) (q := 74) dX7_layWeights_73 rfl rfl (by decide) rfl ?_
        refine wk_iconst (q := 75) dX7_layWeights_74 rfl ?_
        refine wk_istore_n (i := 3) (lo' := [(0, _), (1, _), (2, _), (3, _)]) (q := 76) dX7_layWeights_75 rfl rfl (by decide) rfl ?_
        exact inner 0 (Nat.zero_le _) 0 (by omega) (fun e e0 e1 => by omega)
  have loop : ∀ k : Nat, k ≤ T.ng.toNat → ∀ I1 : qI, (∀ c i, c ≠ m + 26 → I1 c i = I c i) → (∀ s : Int, 0 ≤ s → s < k → I1 (m + 26) (tgt C s) = 10 + T.kn (C.od s)) → Wk l E (qmo E 0 n 0 0 (qV n sh (fun I' L' R' => L' = L ∧ R' = R ∧ (∀ c i, c ≠ m + 26 → c ≠ m + 29 → I' c i = I c i) ∧ isWt T C (I' (m + 26)) ∧ mfP T (I' (m + 26)) (I' (m + 29))))) mX7_layWeights 0 0 2
      [(0, .ref m), (1, .int (zI (k : Int)))] [] (n, sh, I1, L, R) := by
    refine up_ind T.ng.toNat ?_ ?_
    · intro I1 f1 f2
      have e5 : I1 m 5 = T.ng := by rw [f1 _ _ (by omega)]; exact hmT.1
      have fe : ∀ v : Int, up I1 (m + 29) T.ng v (m + 26) = I1 (m + 26) := fun v => funext fun i => up_na _ _ _ _ (by omega)
      refine wk_iload_n (i := 1) (q := 3) dX7_layWeights_2 rfl rfl rfl ?_
      refine wk_aload_n (i := 0) (q := 4) dX7_layWeights_3 rfl rfl rfl ?_
      refine wk_getI (fi := 5) (q := 7) dX7_layWeights_4 rfl fl_X7_125 rfl rfl hM.ob ?_
      refine wk_icmp_ge (t := 51) (q := 10) dX7_layWeights_7 rfl rfl (by omega) (by omega) (fun hc7 => ?_) (fun hc7 => ?_)
      · refine wk_aload_n (i := 0) (q := 52) dX7_layWeights_51 rfl rfl rfl ?_
        refine wk_getR (fi := 41) (q := 55) dX7_layWeights_52 rfl fl_X7_94 rfl rfl hM.ob hM.r41 ?_
        refine wk_aload_n (i := 0) (q := 56) dX7_layWeights_55 rfl rfl rfl ?_
        refine wk_getI (fi := 5) (q := 59) dX7_layWeights_56 rfl fl_X7_125 rfl rfl hM.ob ?_
        rw [e5]
        refine wk_iconst (q := 60) dX7_layWeights_59 rfl ?_
        refine wk_iast (q := 61) dX7_layWeights_60 rfl hM.s41 (by omega) ?_
        refine wk_aload_n (i := 0) (q := 62) dX7_layWeights_61 rfl rfl rfl ?_
        refine wk_getI (fi := 5) (q := 65) dX7_layWeights_62 rfl fl_X7_125 rfl rfl hM.ob ?_
        refine wk_iconst (q := 66) dX7_layWeights_65 rfl ?_
        refine wk_isub (q := 67) dX7_layWeights_66 rfl ?_
        refine wk_istore_n (i := 1) (lo' := [(0, _), (1, _)]) (q := 68) dX7_layWeights_67 rfl rfl (by decide) rfl ?_
        rw [up_na _ _ _ _ (by omega), e5]
        have s2 := stage2 (up I1 (m + 29) T.ng 0) (fun c i q1 q2 => by rw [up_na _ _ _ _ q2]; exact f1 c i q1) (by rw [fe]; exact fun s s0 s1 => f2 s s0 (by omega)) T.ng.toNat (by omega) _ (fun _ _ _ => rfl) (up_eq _ _ _ _) (fun g h1 h2 => by omega)
        rw [show ((T.ng.toNat : Nat) : Int) = T.ng by omega] at s2
        exact s2
      · omega
    · intro k hk ih I1 f1 f2
      have hmT1 : mT I1 m T := hmT.cg (fun c i q => f1 c i (by omega))
      have hN1 : mNow I1 m T C la := hN.cg (fun c i q => f1 c i (by omega))
      have e5 := hmT1.1
      have e16 := hN1.1
      have hm1 := Int.emod_nonneg ((k : Int) + C.st) (b := T.ng) (by omega)
      have hm2 := Int.emod_lt_of_pos ((k : Int) + C.st) (b := T.ng) (by omega)
      have ht := tgt_in hC.1 (k : Int)
      have et : I1 (m + 11) (((k : Int) + C.st) % T.ng) = tgt C k := by
        rw [hN1.2.2.1 _ hm1 hm2]
        unfold tgt
        rw [hse]
      have ho : I1 (m + 11) (k : Int) = C.od k := hN1.2.2.1 k (by omega) (by omega)
      have hod := od_in hC.1 (s := (k : Int)) (by omega) (by omega)
      have hkn := (hmT1.2.2.2 (C.od k) hod.1 hod.2).2.1
      refine wk_iload_n (i := 1) (q := 3) dX7_layWeights_2 rfl rfl rfl ?_
      refine wk_aload_n (i := 0) (q := 4) dX7_layWeights_3 rfl rfl rfl ?_
      refine wk_getI (fi := 5) (q := 7) dX7_layWeights_4 rfl fl_X7_125 rfl rfl hM.ob ?_
      refine wk_icmp_ge (t := 51) (q := 10) dX7_layWeights_7 rfl rfl (by omega) (by omega) (fun hc7 => ?_) (fun hc7 => ?_)
      · omega
      · refine wk_aload_n (i := 0) (q := 11) dX7_layWeights_10 rfl rfl rfl ?_
        refine wk_getR (fi := 38) (q := 14) dX7_layWeights_11 rfl fl_X7_85 rfl rfl hM.ob hM.r38 ?_
        refine wk_aload_n (i := 0) (q := 15) dX7_layWeights_14 rfl rfl rfl ?_
        refine wk_getR (fi := 14) (q := 18) dX7_layWeights_15 rfl fl_X7_40 rfl rfl hM.ob hM.r14 ?_
        refine wk_iload_n (i := 1) (q := 19) dX7_layWeights_18 rfl rfl rfl ?_
        refine wk_aload_n (i := 0) (q := 20) dX7_layWeights_19 rfl rfl rfl ?_
        refine wk_getI (fi := 16) (q := 23) dX7_layWeights_20 rfl fl_X7_161 rfl rfl hM.ob ?_
        refine wk_iadd (q := 24) dX7_layWeights_23 rfl ?_
        refine wk_aload_n (i := 0) (q := 25) dX7_layWeights_24 rfl rfl rfl ?_
        refine wk_getI (fi := 5) (q := 28) dX7_layWeights_25 rfl fl_X7_125 rfl rfl hM.ob ?_
        rw [e16, e5]
        refine wk_irem (q := 29) dX7_layWeights_28 rfl (by omega) (by omega) ?_
        refine wk_iald (q := 30) dX7_layWeights_29 rfl hM.s14 (by omega) ?_
        refine wk_bipush (q := 32) dX7_layWeights_30 rfl (by decide +kernel) ?_
        refine wk_aload_n (i := 0) (q := 33) dX7_layWeights_32 rfl rfl rfl ?_
        refine wk_getR (fi := 10) (q := 36) dX7_layWeights_33 rfl fl_X7_28 rfl rfl hM.ob hM.r10 ?_
        refine wk_aload_n (i := 0) (q := 37) dX7_layWeights_36 rfl rfl rfl ?_
        refine wk_getR (fi := 14) (q := 40) dX7_layWeights_37 rfl fl_X7_40 rfl rfl hM.ob hM.r14 ?_
        refine wk_iload_n (i := 1) (q := 41) dX7_layWeights_40 rfl rfl rfl ?_
        refine wk_iald (q := 42) dX7_layWeights_41 rfl hM.s14 (by omega) ?_
        refine wk_iald (q := 43) dX7_layWeights_42 rfl hM.s10 (by omega) ?_
        refine wk_iadd (q := 44) dX7_layWeights_43 rfl ?_
        refine wk_iast (q := 45) dX7_layWeights_44 rfl hM.s38 (by omega) ?_
        refine wk_iinc (lo' := [(0, _), (1, _)]) (q := 48) dX7_layWeights_45 rfl rfl (by decide) rfl ?_
        refine wk_goto (t := 2) dX7_layWeights_48 rfl ?_
        rw [et, ho, hkn]
        refine ih _ (fun c i q => ?_) (fun s s0 s1 => ?_)
        · rw [up_na _ _ _ _ q]
          exact f1 c i q
        · by_cases e : s = (k : Int)
          · subst e
            exact up_eq _ _ _ _
          · rw [up_ni _ _ (fun q => e (tgt_inj hok hC.1 ⟨s0, by omega⟩ ⟨by omega, by omega⟩ q))]
            exact f2 s s0 (by omega)
  refine Ct.of (lo := [(0, _)]) ok_X7_layWeights (Nat.le_of_ble_eq_true rfl) rfl ?_
  refine wk_iconst (q := 1) dX7_layWeights_0 rfl ?_
  refine wk_istore_n (i := 1) (lo' := [(0, _), (1, _)]) (q := 2) dX7_layWeights_1 rfl rfl (by decide) rfl ?_
  exact loop 0 (Nat.zero_le _) I (fun _ _ _ => rfl) (fun s s0 s1 => by omega)
theorem ct_X7_mayHave {m : Nat} {T : TT} {g c : Int} (hM : qMod E.2.2 n sh R m) (hok : T.ok) (hmT : mT I m T) (hg : 0 ≤ g ∧ g < T.ng) (hc : 0 ≤ c ∧ c ≤ T.nd) (hle : c < T.nd → in32 (I (m + 25) c)) :
    Ct l E 0 mX7_mayHave [.ref m, .int (zI g), .int (zI c)] (n, sh, I, L, R) 0 0 (qP n sh I L R (qBo (c = T.nd ∨ (0 < I (m + 25) c ∧ T.wo g c ≠ -1)))) := by
  have hng := hok.2.1
  have hnd := hok.2.2.2.1
  have e6 := hmT.2.1
  have eo : c < T.nd → I (m + 9) (6 * g + c) = T.wo g c := fun q => (hmT.2.2.2 g hg.1 hg.2).2.2.2 c hc.1 q
  have ob : c < T.nd → -1 ≤ T.wo g c ∧ T.wo g c ≤ 9 := fun q => (hok.2.2.2.2.2 g hg.1 hg.2).2.2.2.2.2.2 c hc.1 q
  refine Ct.of (lo := [(0, _), (1, _), (2, _)]) ok_X7_mayHave (Nat.le_of_ble_eq_true rfl) rfl ?_
  refine wk_iload_n (i := 2) (q := 1) dX7_mayHave_0 rfl rfl rfl ?_
  refine wk_aload_n (i := 0) (q := 2) dX7_mayHave_1 rfl rfl rfl ?_
  refine wk_getI (fi := 6) (q := 5) dX7_mayHave_2 rfl fl_X7_128 rfl rfl hM.ob ?_
  refine wk_icmp_eq (t := 32) (q := 8) dX7_mayHave_5 rfl rfl (by omega) (by omega) (fun hc5 => ?_) (fun hc5 => ?_)
  · refine wk_iconst (q := 33) dX7_mayHave_32 rfl ?_
    refine wk_goto (t := 37) dX7_mayHave_33 rfl ?_
    refine wk_zret dX7_mayHave_37 rfl (by omega) ⟨Nat.le_refl _, Nat.le_refl _⟩ rfl ?_
    refine ⟨_, _, _, _, rfl, rfl, rfl, rfl, rfl, ?_⟩
    unfold qBo
    omega
  · have hle' := hle (by omega)
    have eo' := eo (by omega)
    have ob' := ob (by omega)
    refine wk_aload_n (i := 0) (q := 9) dX7_mayHave_8 rfl rfl rfl ?_
    refine wk_getR (fi := 37) (q := 12) dX7_mayHave_9 rfl fl_X7_82 rfl rfl hM.ob hM.r37 ?_
    refine wk_iload_n (i := 2) (q := 13) dX7_mayHave_12 rfl rfl rfl ?_
    refine wk_iald (q := 14) dX7_mayHave_13 rfl hM.s37 (by omega) ?_
    refine wk_if_le (t := 36) (q := 17) dX7_mayHave_14 rfl rfl (by omega) (fun hc14 => ?_) (fun hc14 => ?_)
    · refine wk_iconst (q := 37) dX7_mayHave_36 rfl ?_
      refine wk_zret dX7_mayHave_37 rfl (by omega) ⟨Nat.le_refl _, Nat.le_refl _⟩ rfl ?_
      refine ⟨_, _, _, _, rfl, rfl, rfl, rfl, rfl, ?_⟩
      unfold qBo
      omega
    · refine wk_aload_n (i := 0) (q := 18) dX7_mayHave_17 rfl rfl rfl ?_
      refine wk_getR (fi := 12) (q := 21) dX7_mayHave_18 rfl fl_X7_34 rfl rfl hM.ob hM.r12 ?_
      refine wk_bipush (q := 23) dX7_mayHave_21 rfl (by decide +kernel) ?_
      refine wk_iload_n (i := 1) (q := 24) dX7_mayHave_23 rfl rfl rfl ?_
      refine wk_imul (q := 25) dX7_mayHave_24 rfl ?_
      refine wk_iload_n (i := 2) (q := 26) dX7_mayHave_25 rfl rfl rfl ?_
      refine wk_iadd (q := 27) dX7_mayHave_26 rfl ?_
      refine wk_iald (q := 28) dX7_mayHave_27 rfl hM.s12 (by omega) ?_
      refine wk_iconst (q := 29) dX7_mayHave_28 rfl ?_
      refine wk_icmp_eq (t := 36) (q := 32) dX7_mayHave_29 rfl rfl (by omega) (by omega) (fun hc29 => ?_) (fun hc29 => ?_)
      · refine wk_iconst (q := 37) dX7_mayHave_36 rfl ?_
        refine wk_zret dX7_mayHave_37 rfl (by omega) ⟨Nat.le_refl _, Nat.le_refl _⟩ rfl ?_
        refine ⟨_, _, _, _, rfl, rfl, rfl, rfl, rfl, ?_⟩
        unfold qBo
        omega
      · refine wk_iconst (q := 33) dX7_mayHave_32 rfl ?_
        refine wk_goto (t := 37) dX7_mayHave_33 rfl ?_
        refine wk_zret dX7_mayHave_37 rfl (by omega) ⟨Nat.le_refl _, Nat.le_refl _⟩ rfl ?_
        refine ⟨_, _, _, _, rfl, rfl, rfl, rfl, rfl, ?_⟩
        unfold qBo
        omega
theorem ct_X7_valueOf {m : Nat} {T : TT} {g c : Int} (hM : qMod E.2.2 n sh R m) (hok : T.ok) (hmT : mT I m T) (hg : 0 ≤ g ∧ g < T.ng) (hc : 0 ≤ c ∧ c ≤ T.nd) :
    Ct l E 0 mX7_valueOf [.ref m, .int (zI g), .int (zI c)] (n, sh, I, L, R) 0 0 (qP n sh I L R (fun v => v = vtm T (I (m + 26)) g (if c = T.nd then -9 else c))) := by
  have hng := hok.2.1
  have hnd := hok.2.2.2.1
  have e6 := hmT.2.1
  refine Ct.of (lo := [(0, _), (1, _), (2, _)]) ok_X7_valueOf (Nat.le_of_ble_eq_true rfl) rfl ?_
  refine wk_iload_n (i := 2) (q := 1) dX7_valueOf_0 rfl rfl rfl ?_
  refine wk_aload_n (i := 0) (q := 2) dX7_valueOf_1 rfl rfl rfl ?_
  refine wk_getI (fi := 6) (q := 5) dX7_valueOf_2 rfl fl_X7_128 rfl rfl hM.ob ?_
  refine wk_icmp_ne (t := 12) (q := 8) dX7_valueOf_5 rfl rfl (by omega) (by omega) (fun hc5 => ?_) (fun hc5 => ?_)
  · refine wk_aload_n (i := 0) (q := 13) dX7_valueOf_12 rfl rfl rfl ?_
    refine wk_getR (fi := 12) (q := 16) dX7_valueOf_13 rfl fl_X7_34 rfl rfl hM.ob hM.r12 ?_
    refine wk_bipush (q := 18) dX7_valueOf_16 rfl (by decide +kernel) ?_
    refine wk_iload_n (i := 1) (q := 19) dX7_valueOf_18 rfl rfl rfl ?_
    refine wk_imul (q := 20) dX7_valueOf_19 rfl ?_
    refine wk_iload_n (i := 2) (q := 21) dX7_valueOf_20 rfl rfl rfl ?_
    refine wk_iadd (q := 22) dX7_valueOf_21 rfl ?_
    refine wk_iald (q := 23) dX7_valueOf_22 rfl hM.s12 (by omega) ?_
    refine wk_aload_n (i := 0) (q := 24) dX7_valueOf_23 rfl rfl rfl ?_
    refine wk_getR (fi := 38) (q := 27) dX7_valueOf_24 rfl fl_X7_85 rfl rfl hM.ob hM.r38 ?_
    refine wk_iload_n (i := 1) (q := 28) dX7_valueOf_27 rfl rfl rfl ?_
    refine wk_iald (q := 29) dX7_valueOf_28 rfl hM.s38 (by omega) ?_
    refine wk_imul (q := 30) dX7_valueOf_29 rfl ?_
    refine wk_iret dX7_valueOf_30 rfl ⟨Nat.le_refl _, Nat.le_refl _⟩ rfl ?_
    refine ⟨_, _, _, _, rfl, rfl, rfl, rfl, rfl, ?_⟩
    unfold vtm
    first
      | (rw [if_pos (show c = T.nd by omega)]; rfl)
      | (rw [if_neg (show ¬ c = T.nd by omega), if_neg (by omega), Int.mul_comm, (hmT.2.2.2 g hg.1 hg.2).2.2.2 c hc.1 (by omega)])
  · refine wk_iconst (q := 9) dX7_valueOf_8 rfl ?_
    refine wk_goto (t := 30) dX7_valueOf_9 rfl ?_
    refine wk_iret dX7_valueOf_30 rfl ⟨Nat.le_refl _, Nat.le_refl _⟩ rfl ?_
    refine ⟨_, _, _, _, rfl, rfl, rfl, rfl, rfl, ?_⟩
    unfold vtm
    first
      | (rw [if_pos (show c = T.nd by omega)]; rfl)
      | (rw [if_neg (show ¬ c = T.nd by omega), if_neg (by omega), Int.mul_comm, (hmT.2.2.2 g hg.1 hg.2).2.2.2 c hc.1 (by omega)])
theorem ct_X7_takes {m : Nat} {T : TT} {c w : Int} (hM : qMod E.2.2 n sh R m) (hok : T.ok) (hmT : mT I m T) (hc : 0 ≤ c ∧ c ≤ T.nd) :
    Ct l E 0 mX7_takes [.ref m, .int (zI c), .int (zI w)] (n, sh, I, L, R) 0 0 (qV n sh (fun I' L' R' => L' = L ∧ R' = R ∧ I' = if c < T.nd then up I (m + 25) c (I (m + 25) c - w) else I)) := by
  have hnd := hok.2.2.2.1
  have e6 := hmT.2.1
  refine Ct.of (lo := [(0, _), (1, _), (2, _)]) ok_X7_takes (Nat.le_of_ble_eq_true rfl) rfl ?_
  refine wk_iload_n (i := 1) (q := 1) dX7_takes_0 rfl rfl rfl ?_
  refine wk_if_lt (t := 22) (q := 4) dX7_takes_1 rfl rfl (by omega) (fun hc1 => ?_) (fun hc1 => ?_)
  · refine wk_ret dX7_takes_22 rfl ⟨Nat.le_refl _, Nat.le_refl _⟩ rfl ?_
    refine ⟨_, _, _, rfl, rfl, rfl, rfl, ?_⟩
    first
      | (exfalso; omega)
      | rw [if_pos (by omega)]
      | rw [if_neg (by omega)]
  · refine wk_iload_n (i := 1) (q := 5) dX7_takes_4 rfl rfl rfl ?_
    refine wk_aload_n (i := 0) (q := 6) dX7_takes_5 rfl rfl rfl ?_
    refine wk_getI (fi := 6) (q := 9) dX7_takes_6 rfl fl_X7_128 rfl rfl hM.ob ?_
    refine wk_icmp_ge (t := 22) (q := 12) dX7_takes_9 rfl rfl (by omega) (by omega) (fun hc9 => ?_) (fun hc9 => ?_)
    · refine wk_ret dX7_takes_22 rfl ⟨Nat.le_refl _, Nat.le_refl _⟩ rfl ?_
      refine ⟨_, _, _, rfl, rfl, rfl, rfl, ?_⟩
      first
        | (exfalso; omega)
        | rw [if_pos (by omega)]
        | rw [if_neg (by omega)]
    · refine wk_aload_n (i := 0) (q := 13) dX7_takes_12 rfl rfl rfl ?_
      refine wk_getR (fi := 37) (q := 16) dX7_takes_13 rfl fl_X7_82 rfl rfl hM.ob hM.r37 ?_
      refine wk_iload_n (i := 1) (q := 17) dX7_takes_16 rfl rfl rfl ?_
      refine wk_dup2 (q := 18) dX7_takes_17 rfl rfl rfl ?_
      refine wk_iald (q := 19) dX7_takes_18 rfl hM.s37 (by omega) ?_
      refine wk_iload_n (i := 2) (q := 20) dX7_takes_19 rfl rfl rfl ?_
      refine wk_isub (q := 21) dX7_takes_20 rfl ?_
      refine wk_iast (q := 22) dX7_takes_21 rfl hM.s37 (by omega) ?_
      refine wk_ret dX7_takes_22 rfl ⟨Nat.le_refl _, Nat.le_refl _⟩ rfl ?_
      refine ⟨_, _, _, rfl, rfl, rfl, rfl, ?_⟩
      first
        | (exfalso; omega)
        | rw [if_pos (by omega)]
        | rw [if_neg (by omega)]
theorem ct_X7_keepBest {m : Nat} {T : TT} {s : Int} (hM : qMod E.2.2 n sh R m) (hok : T.ok) (hmT : mT I m T) (hs : in32 s) (hb : in32 (I m 42)) (ht : ∀ g, 0 ≤ g → g < T.ng → 0 ≤ I (m + 27) g ∧ I (m + 27) g ≤ T.nd) :
    Ct l E 0 mX7_keepBest [.ref m, .int (zI s)] (n, sh, I, L, R) 0 0 (qV n sh (fun I' L' R' => L' = L ∧ R' = R ∧ (s ≤ I m 42 → I' = I) ∧ (I m 42 < s → (∀ c i, ¬ (c = m ∧ i = 42) → c ≠ m + 28 → I' c i = I c i) ∧ I' m 42 = s ∧ ∀ g, 0 ≤ g → g < T.ng → I' (m + 28) g = rwT T (I (m + 27)) g))) := by
  have hng := hok.2.1
  have hng0 := hok.1
  have hnd := hok.2.2.2.1
  have e5 := hmT.1
  have e6 := hmT.2.1
  have loop : I m 42 < s → ∀ k : Nat, k ≤ T.ng.toNat → ∀ I1 : qI, (∀ c i, ¬ (c = m ∧ i = 42) → c ≠ m + 28 → I1 c i = I c i) → I1 m 42 = s → (∀ g, 0 ≤ g → g < (k : Int) → I1 (m + 28) g = rwT T (I (m + 27)) g) → Wk l E (qmo E 0 n 0 0 (qV n sh (fun I' L' R' => L' = L ∧ R' = R ∧ (s ≤ I m 42 → I' = I) ∧ (I m 42 < s → (∀ c i, ¬ (c = m ∧ i = 42) → c ≠ m + 28 → I' c i = I c i) ∧ I' m 42 = s ∧ ∀ g, 0 ≤ g → g < T.ng → I' (m + 28) g = rwT T (I (m + 27)) g)))) mX7_keepBest 0 0 16
      [(0, .ref m), (1, .int (zI s)), (2, .int (zI (k : Int)))] [] (n, sh, I1, L, R) := by
    intro hlt
    refine up_ind T.ng.toNat ?_ ?_
    · intro I1 f1 f2 f3
      have e5' : I1 m 5 = T.ng := by rw [f1 _ _ (by omega) (by omega)]; exact e5
      refine wk_iload_n (i := 2) (q := 17) dX7_keepBest_16 rfl rfl rfl ?_
      refine wk_aload_n (i := 0) (q := 18) dX7_keepBest_17 rfl rfl rfl ?_
      refine wk_getI (fi := 5) (q := 21) dX7_keepBest_18 rfl fl_X7_125 rfl rfl hM.ob ?_
      refine wk_icmp_ge (t := 60) (q := 24) dX7_keepBest_21 rfl rfl (by omega) (by omega) (fun hc21 => ?_) (fun hc21 => ?_)
      · refine wk_ret dX7_keepBest_60 rfl ⟨Nat.le_refl _, Nat.le_refl _⟩ rfl ?_
        exact ⟨_, _, _, rfl, rfl, rfl, rfl, fun q => by omega, fun _ => ⟨f1, f2, fun g g0 g1 => f3 g g0 (by omega)⟩⟩
      · omega
    · intro k hk ih I1 f1 f2 f3
      have e5' : I1 m 5 = T.ng := by rw [f1 _ _ (by omega) (by omega)]; exact e5
      have e6' : I1 m 6 = T.nd := by rw [f1 _ _ (by omega) (by omega)]; exact e6
      have et : I1 (m + 27) (k : Int) = I (m + 27) k := f1 _ _ (by omega) (by omega)
      have htk := ht (k : Int) (by omega) (by omega)
      have fin : ∀ v : Int, v = rwT T (I (m + 27)) k → Wk l E (qmo E 0 n 0 0 (qV n sh (fun I' L' R' => L' = L ∧ R' = R ∧ (s ≤ I m 42 → I' = I) ∧ (I m 42 < s → (∀ c i, ¬ (c = m ∧ i = 42) → c ≠ m + 28 → I' c i = I c i) ∧ I' m 42 = s ∧ ∀ g, 0 ≤ g → g < T.ng → I' (m + 28) g = rwT T (I (m + 27)) g)))) mX7_keepBest 0 0 16
          [(0, .ref m), (1, .int (zI s)), (2, .int (zI ((k : Int) + 1)))] [] (n, sh, up I1 (m + 28) (k : Int) v, L, R) := fun v hv => by
        refine ih _ (fun c i q1 q2 => by rw [up_na _ _ _ _ q2]; exact f1 c i q1 q2) (by rw [up_na _ _ _ _ (by omega)]; exact f2) (fun g g0 g1 => ?_)
        by_cases e : g = (k : Int)
        · subst e
          rw [up_eq]
          exact hv
        · rw [up_ni _ _ e]
          exact f3 g g0 (by omega)
      refine wk_iload_n (i := 2) (q := 17) dX7_keepBest_16 rfl rfl rfl ?_
      refine wk_aload_n (i := 0) (q := 18) dX7_keepBest_17 rfl rfl rfl ?_
      refine wk_getI (fi := 5) (q := 21) dX7_keepBest_18 rfl fl_X7_125 rfl rfl hM.ob ?_
      refine wk_icmp_ge (t := 60) (q := 24) dX7_keepBest_21 rfl rfl (by omega) (by omega) (fun hc21 => ?_) (fun hc21 => ?_)
      · omega
      · refine wk_aload_n (i := 0) (q := 25) dX7_keepBest_24 rfl rfl rfl ?_
        refine wk_getR (fi := 40) (q := 28) dX7_keepBest_25 rfl fl_X7_91 rfl rfl hM.ob hM.r40 ?_
        refine wk_iload_n (i := 2) (q := 29) dX7_keepBest_28 rfl rfl rfl ?_
        refine wk_aload_n (i := 0) (q := 30) dX7_keepBest_29 rfl rfl rfl ?_
        refine wk_getR (fi := 39) (q := 33) dX7_keepBest_30 rfl fl_X7_88 rfl rfl hM.ob hM.r39 ?_
        refine wk_iload_n (i := 2) (q := 34) dX7_keepBest_33 rfl rfl rfl ?_
        refine wk_iald (q := 35) dX7_keepBest_34 rfl hM.s39 (by omega) ?_
        refine wk_aload_n (i := 0) (q := 36) dX7_keepBest_35 rfl rfl rfl ?_
        refine wk_getI (fi := 6) (q := 39) dX7_keepBest_36 rfl fl_X7_128 rfl rfl hM.ob ?_
        refine wk_icmp_ne (t := 47) (q := 42) dX7_keepBest_39 rfl rfl (by omega) (by omega) (fun hc39 => ?_) (fun hc39 => ?_)
        · refine wk_aload_n (i := 0) (q := 48) dX7_keepBest_47 rfl rfl rfl ?_
          refine wk_getR (fi := 39) (q := 51) dX7_keepBest_48 rfl fl_X7_88 rfl rfl hM.ob hM.r39 ?_
          refine wk_iload_n (i := 2) (q := 52) dX7_keepBest_51 rfl rfl rfl ?_
          refine wk_iald (q := 53) dX7_keepBest_52 rfl hM.s39 (by omega) ?_
          refine wk_iast (q := 54) dX7_keepBest_53 rfl hM.s40 (by omega) ?_
          refine wk_iinc (lo' := [(0, _), (1, _), (2, _)]) (q := 57) dX7_keepBest_54 rfl rfl (by decide) rfl ?_
          refine wk_goto (t := 16) dX7_keepBest_57 rfl ?_
          refine fin _ ?_
          unfold rwT
          first
            | rw [if_pos (by omega)]
            | (rw [if_neg (by omega)]; exact et)
        · refine wk_bipush (q := 44) dX7_keepBest_42 rfl (by decide +kernel) ?_
          refine wk_goto (t := 53) dX7_keepBest_44 rfl ?_
          refine wk_iast (q := 54) dX7_keepBest_53 rfl hM.s40 (by omega) ?_
          refine wk_iinc (lo' := [(0, _), (1, _), (2, _)]) (q := 57) dX7_keepBest_54 rfl rfl (by decide) rfl ?_
          refine wk_goto (t := 16) dX7_keepBest_57 rfl ?_
          refine fin _ ?_
          unfold rwT
          first
            | rw [if_pos (by omega)]
            | (rw [if_neg (by omega)]; exact et)
  refine Ct.of (lo := [(0, _), (1, _)]) ok_X7_keepBest (Nat.le_of_ble_eq_true rfl) rfl ?_
  refine wk_iload_n (i := 1) (q := 1) dX7_keepBest_0 rfl rfl rfl ?_
  refine wk_aload_n (i := 0) (q := 2) dX7_keepBest_1 rfl rfl rfl ?_
  refine wk_getI (fi := 42) (q := 5) dX7_keepBest_2 rfl fl_X7_244 rfl rfl hM.ob ?_
  refine wk_icmp_gt (t := 9) (q := 8) dX7_keepBest_5 rfl rfl (by omega) (by omega) (fun hc5 => ?_) (fun hc5 => ?_)
  · refine wk_aload_n (i := 0) (q := 10) dX7_keepBest_9 rfl rfl rfl ?_
    refine wk_iload_n (i := 1) (q := 11) dX7_keepBest_10 rfl rfl rfl ?_
    refine wk_putI (fi := 42) (q := 14) dX7_keepBest_11 rfl fl_X7_244 fw_7_42 rfl rfl hM.ob ?_
    refine wk_iconst (q := 15) dX7_keepBest_14 rfl ?_
    refine wk_istore_n (i := 2) (lo' := [(0, _), (1, _), (2, _)]) (q := 16) dX7_keepBest_15 rfl rfl (by decide) rfl ?_
    exact loop (by omega) 0 (Nat.zero_le _) _ (fun c i q1 q2 => up_off q1) (up_eq _ _ _ _) (fun g g0 g1 => by omega)
  · refine wk_ret dX7_keepBest_8 rfl ⟨Nat.le_refl _, Nat.le_refl _⟩ rfl ?_
    exact ⟨_, _, _, rfl, rfl, rfl, rfl, fun _ => rfl, fun q => by omega⟩
end BEST6
