/-! TABLE, the reference's table -/
def tkP (I I' : qI) (m : Nat) (T : TT) : Prop := (∀ b i, ¬ (b = m ∧ (i = 5 ∨ i = 6 ∨ i = 16 ∨ i = 17 ∨ i = 18)) → ¬ (m + 4 ≤ b ∧ b ≤ m + 12) → I' b i = I b i) ∧ mT I' m T ∧ mNow I' m T (rdC T) (fun _ => -8) ∧ I' m 18 = 0
theorem refRF_a {V : VV} {k so i z : Int} (h : ¬ (0 ≤ k ∧ k < 4)) : refR V k so i z = -1 ∧ refF V k so i z = 0 := ⟨if_pos h, if_pos h⟩
theorem refRF_b {V : VV} {k so i z : Int} (h : 0 ≤ k ∧ k < 4) (h2 : ¬ (0 ≤ so ∧ so ≤ 2)) : refR V k so i z = -2 ∧ refF V k so i z = 0 := by
  have A : ¬ ¬ (0 ≤ k ∧ k < 4) := fun q => q h
  unfold refR refF
  rw [if_neg A, if_neg A, if_pos h2, if_pos h2]
  exact ⟨rfl, rfl⟩
section TEXT7
variable {l : Launch} {E : qEv} {n : Nat} {sh : qSh} {I L : qI} {R : qR}
theorem ct_X7_takeTable {m : Nat} {T : TT} (hM : qMod E.2.2 n sh R m) (hok : T.ok) (h20 : I m 20 = T.ng) (h21 : I m 21 = T.nd) (hd : ∀ d, 0 ≤ d → d < T.nd → I (m + 13) d = T.mn d ∧ I (m + 14) d = T.pr d) (hg : ∀ g, 0 ≤ g → g < T.ng → I (m + 15) g = T.kd g ∧ I (m + 16) g = T.kn g ∧ I (m + 17) g = T.ct g ∧ ∀ d, 0 ≤ d → d < T.nd → I (m + 18) (6 * g + d) = T.wo g d) :
    Ct l E 0 mX7_takeTable [.ref m] (n, sh, I, L, R) 0 0 (qV n sh (fun I' L' R' => L' = L ∧ R' = R ∧ tkP I I' m T)) := by
  have hng := hok.2.1
  have hng0 := hok.1
  have hnd := hok.2.2.2.1
  have hnd0 := hok.2.2.1
  have fr : ∀ {I1 : qI}, (∀ b i, ¬ (b = m ∧ (i = 5 ∨ i = 6)) → ¬ (m + 4 ≤ b ∧ b ≤ m + 12) → I1 b i = I b i) → (∀ i, I1 (m + 13) i = I (m + 13) i ∧ I1 (m + 14) i = I (m + 14) i ∧ I1 (m + 15) i = I (m + 15) i ∧ I1 (m + 16) i = I (m + 16) i ∧ I1 (m + 17) i = I (m + 17) i ∧ I1 (m + 18) i = I (m + 18) i) := fun f i => ⟨f _ _ (by omega) (by omega), f _ _ (by omega) (by omega), f _ _ (by omega) (by omega), f _ _ (by omega) (by omega), f _ _ (by omega) (by omega), f _ _ (by omega) (by omega)⟩
  have loopW : ∀ k : Nat, k ≤ 42 → ∀ I1 : qI, (∀ b i, ¬ (b = m ∧ (i = 5 ∨ i = 6)) → ¬ (m + 4 ≤ b ∧ b ≤ m + 12) → I1 b i = I b i) → I1 m 5 = T.ng → I1 m 6 = T.nd → (∀ d : Int, 0 ≤ d → d < T.nd → I1 (m + 4) d = T.mn d ∧ I1 (m + 5) d = T.pr d) → (∀ g : Int, 0 ≤ g → g < T.ng → I1 (m + 6) g = T.kd g ∧ I1 (m + 7) g = T.kn g ∧ I1 (m + 8) g = T.ct g ∧ I1 (m + 11) g = g ∧ I1 (m + 12) g = -8) → (∀ i : Int, 0 ≤ i → i < k → I1 (m + 9) i = I (m + 18) i ∧ I1 (m + 10) i = I (m + 18) i) → Wk l E (qmo E 0 n 0 0 (qV n sh (fun I' L' R' => L' = L ∧ R' = R ∧ tkP I I' m T))) mX7_takeTable 0 0 125
      [(0, .ref m), (1, .int (zI (k : Int)))] [] (n, sh, I1, L, R) := by
    refine up_ind 42 ?_ ?_
    · intro I1 f1 e5 e6 f2 f3 f4
      refine wk_iload_n (i := 1) (q := 126) dX7_takeTable_125 rfl rfl rfl ?_
      refine wk_bipush (q := 128) dX7_takeTable_126 rfl (by decide +kernel) ?_
      refine wk_icmp_ge (t := 161) (q := 131) dX7_takeTable_128 rfl rfl (by omega) (by omega) (fun hc128 => ?_) (fun hc128 => ?_)
      · refine wk_aload_n (i := 0) (q := 162) dX7_takeTable_161 rfl rfl rfl ?_
        refine wk_iconst (q := 163) dX7_takeTable_162 rfl ?_
        refine wk_putI (fi := 16) (q := 166) dX7_takeTable_163 rfl fl_X7_161 fw_7_16 rfl rfl hM.ob ?_
        refine wk_aload_n (i := 0) (q := 167) dX7_takeTable_166 rfl rfl rfl ?_
        refine wk_iconst (q := 168) dX7_takeTable_167 rfl ?_
        refine wk_putI (fi := 17) (q := 171) dX7_takeTable_168 rfl fl_X7_164 fw_7_17 rfl rfl hM.ob ?_
        refine wk_aload_n (i := 0) (q := 172) dX7_takeTable_171 rfl rfl rfl ?_
        refine wk_iconst (q := 173) dX7_takeTable_172 rfl ?_
        refine wk_putI (fi := 18) (q := 176) dX7_takeTable_173 rfl fl_X7_167 fw_7_18 rfl rfl hM.ob ?_
        refine wk_ret dX7_takeTable_176 rfl ⟨Nat.le_refl _, Nat.le_refl _⟩ rfl ?_
        have q : ∀ b i, ¬ (b = m ∧ (i = 16 ∨ i = 17 ∨ i = 18)) → up (up (up I1 m 16 1) m 17 1) m 18 0 b i = I1 b i := fun b i z => by rw [up_off (by omega), up_off (by omega), up_off (by omega)]
        refine ⟨_, _, _, rfl, rfl, rfl, rfl, fun b i z1 z2 => by rw [q _ _ (by omega)]; exact f1 b i (by omega) z2, ⟨by rw [q _ _ (by omega)]; exact e5, by rw [q _ _ (by omega)]; exact e6, fun d d0 d1 => by rw [q _ _ (by omega), q _ _ (by omega)]; exact f2 d d0 d1, fun g g0 g1 => ⟨by rw [q _ _ (by omega)]; exact (f3 g g0 g1).1, by rw [q _ _ (by omega)]; exact (f3 g g0 g1).2.1, by rw [q _ _ (by omega)]; exact (f3 g g0 g1).2.2.1, fun d d0 d1 => by rw [q _ _ (by omega), (f4 _ (by omega) (by omega)).1]; exact (hg g g0 g1).2.2.2 d d0 d1⟩⟩, ⟨?_, ?_, fun s s0 s1 => by rw [q _ _ (by omega)]; exact (f3 s s0 s1).2.2.2.1, fun g g0 g1 => ⟨by rw [q _ _ (by omega)]; exact (f3 g g0 g1).2.2.2.2, fun d d0 d1 => by rw [q _ _ (by omega), (f4 _ (by omega) (by omega)).2]; exact (hg g g0 g1).2.2.2 d d0 d1⟩⟩, up_eq _ _ _ _⟩
        · rw [up_ni _ _ (by omega), up_ni _ _ (by omega), up_eq]
          rfl
        · rw [up_ni _ _ (by omega), up_eq]
          rfl
      · omega
    · intro k hk ih I1 f1 e5 e6 f2 f3 f4
      have e18 := ((fr f1) (k : Int)).2.2.2.2.2
      refine wk_iload_n (i := 1) (q := 126) dX7_takeTable_125 rfl rfl rfl ?_
      refine wk_bipush (q := 128) dX7_takeTable_126 rfl (by decide +kernel) ?_
      refine wk_icmp_ge (t := 161) (q := 131) dX7_takeTable_128 rfl rfl (by omega) (by omega) (fun hc128 => ?_) (fun hc128 => ?_)
      · omega
      · refine wk_aload_n (i := 0) (q := 132) dX7_takeTable_131 rfl rfl rfl ?_
        refine wk_getR (fi := 12) (q := 135) dX7_takeTable_132 rfl fl_X7_34 rfl rfl hM.ob hM.r12 ?_
        refine wk_iload_n (i := 1) (q := 136) dX7_takeTable_135 rfl rfl rfl ?_
        refine wk_aload_n (i := 0) (q := 137) dX7_takeTable_136 rfl rfl rfl ?_
        refine wk_getR (fi := 27) (q := 140) dX7_takeTable_137 rfl fl_X7_61 rfl rfl hM.ob hM.r27 ?_
        refine wk_iload_n (i := 1) (q := 141) dX7_takeTable_140 rfl rfl rfl ?_
        refine wk_iald (q := 142) dX7_takeTable_141 rfl hM.s27 (by omega) ?_
        refine wk_iast (q := 143) dX7_takeTable_142 rfl hM.s12 (by omega) ?_
        refine wk_aload_n (i := 0) (q := 144) dX7_takeTable_143 rfl rfl rfl ?_
        refine wk_getR (fi := 13) (q := 147) dX7_takeTable_144 rfl fl_X7_37 rfl rfl hM.ob hM.r13 ?_
        refine wk_iload_n (i := 1) (q := 148) dX7_takeTable_147 rfl rfl rfl ?_
        refine wk_aload_n (i := 0) (q := 149) dX7_takeTable_148 rfl rfl rfl ?_
        refine wk_getR (fi := 27) (q := 152) dX7_takeTable_149 rfl fl_X7_61 rfl rfl hM.ob hM.r27 ?_
        refine wk_iload_n (i := 1) (q := 153) dX7_takeTable_152 rfl rfl rfl ?_
        refine wk_iald (q := 154) dX7_takeTable_153 rfl hM.s27 (by omega) ?_
        refine wk_iast (q := 155) dX7_takeTable_154 rfl hM.s13 (by omega) ?_
        refine wk_iinc (lo' := [(0, _), (1, _)]) (q := 158) dX7_takeTable_155 rfl rfl (by decide) rfl ?_
        refine wk_goto (t := 125) dX7_takeTable_158 rfl ?_
        refine ih _ (fun b i q1 q2 => by rw [up_na _ _ _ _ (by omega), up_na _ _ _ _ (by omega)]; exact f1 b i q1 q2) (by rw [up_na _ _ _ _ (by omega), up_na _ _ _ _ (by omega)]; exact e5) (by rw [up_na _ _ _ _ (by omega), up_na _ _ _ _ (by omega)]; exact e6) (fun d d0 d1 => ⟨by rw [up_na _ _ _ _ (by omega), up_na _ _ _ _ (by omega)]; exact (f2 d d0 d1).1, by rw [up_na _ _ _ _ (by omega), up_na _ _ _ _ (by omega)]; exact (f2 d d0 d1).2⟩) (fun g g0 g1 => ?_) (fun i i0 i1 => ?_)
        · obtain ⟨y1, y2, y3, y4, y5⟩ := f3 g g0 g1
          exact ⟨by rw [up_na _ _ _ _ (by omega), up_na _ _ _ _ (by omega)]; exact y1, by rw [up_na _ _ _ _ (by omega), up_na _ _ _ _ (by omega)]; exact y2, by rw [up_na _ _ _ _ (by omega), up_na _ _ _ _ (by omega)]; exact y3, by rw [up_na _ _ _ _ (by omega), up_na _ _ _ _ (by omega)]; exact y4, by rw [up_na _ _ _ _ (by omega), up_na _ _ _ _ (by omega)]; exact y5⟩
        · by_cases q : i = (k : Int)
          · subst q
            refine ⟨by rw [up_na _ _ _ _ (by omega), up_eq]; exact e18, by rw [up_eq, up_na _ _ _ _ (by omega)]; exact e18⟩
          · exact ⟨by rw [up_na _ _ _ _ (by omega), up_ni _ _ q]; exact (f4 i i0 (by omega)).1, by rw [up_ni _ _ q, up_na _ _ _ _ (by omega)]; exact (f4 i i0 (by omega)).2⟩
  have loopG : ∀ k : Nat, k ≤ T.ng.toNat → ∀ I1 : qI, (∀ b i, ¬ (b = m ∧ (i = 5 ∨ i = 6)) → ¬ (m + 4 ≤ b ∧ b ≤ m + 12) → I1 b i = I b i) → I1 m 5 = T.ng → I1 m 6 = T.nd → (∀ d : Int, 0 ≤ d → d < T.nd → I1 (m + 4) d = T.mn d ∧ I1 (m + 5) d = T.pr d) → (∀ g : Int, 0 ≤ g → g < k → I1 (m + 6) g = T.kd g ∧ I1 (m + 7) g = T.kn g ∧ I1 (m + 8) g = T.ct g ∧ I1 (m + 11) g = g ∧ I1 (m + 12) g = -8) → Wk l E (qmo E 0 n 0 0 (qV n sh (fun I' L' R' => L' = L ∧ R' = R ∧ tkP I I' m T))) mX7_takeTable 0 0 58
      [(0, .ref m), (1, .int (zI (k : Int)))] [] (n, sh, I1, L, R) := by
    refine up_ind T.ng.toNat ?_ ?_
    · intro I1 f1 e5 e6 f2 f3
      refine wk_iload_n (i := 1) (q := 59) dX7_takeTable_58 rfl rfl rfl ?_
      refine wk_aload_n (i := 0) (q := 60) dX7_takeTable_59 rfl rfl rfl ?_
      refine wk_getI (fi := 5) (q := 63) dX7_takeTable_60 rfl fl_X7_125 rfl rfl hM.ob ?_
      refine wk_icmp_ge (t := 123) (q := 66) dX7_takeTable_63 rfl rfl (by omega) (by omega) (fun hc63 => ?_) (fun hc63 => ?_)
      · refine wk_iconst (q := 124) dX7_takeTable_123 rfl ?_
        refine wk_istore_n (i := 1) (lo' := [(0, _), (1, _)]) (q := 125) dX7_takeTable_124 rfl rfl (by decide) rfl ?_
        exact loopW 0 (Nat.zero_le _) I1 f1 e5 e6 f2 (fun g g0 g1 => f3 g g0 (by omega)) (fun i i0 i1 => by omega)
      · omega
    · intro k hk ih I1 f1 e5 e6 f2 f3
      obtain ⟨-, -, z1, z2, z3, -⟩ := (fr f1) (k : Int)
      obtain ⟨w1, w2, w3, -⟩ := hg (k : Int) (by omega) (by omega)
      refine wk_iload_n (i := 1) (q := 59) dX7_takeTable_58 rfl rfl rfl ?_
      refine wk_aload_n (i := 0) (q := 60) dX7_takeTable_59 rfl rfl rfl ?_
      refine wk_getI (fi := 5) (q := 63) dX7_takeTable_60 rfl fl_X7_125 rfl rfl hM.ob ?_
      refine wk_icmp_ge (t := 123) (q := 66) dX7_takeTable_63 rfl rfl (by omega) (by omega) (fun hc63 => ?_) (fun hc63 => ?_)
      · omega
      · refine wk_aload_n (i := 0) (q := 67) dX7_takeTable_66 rfl rfl rfl ?_
        refine wk_getR (fi := 9) (q := 70) dX7_takeTable_67 rfl fl_X7_25 rfl rfl hM.ob hM.r9 ?_
        refine wk_iload_n (i := 1) (q := 71) dX7_takeTable_70 rfl rfl rfl ?_
        refine wk_aload_n (i := 0) (q := 72) dX7_takeTable_71 rfl rfl rfl ?_
        refine wk_getR (fi := 24) (q := 75) dX7_takeTable_72 rfl fl_X7_52 rfl rfl hM.ob hM.r24 ?_
        refine wk_iload_n (i := 1) (q := 76) dX7_takeTable_75 rfl rfl rfl ?_
        refine wk_iald (q := 77) dX7_takeTable_76 rfl hM.s24 (by omega) ?_
        refine wk_iast (q := 78) dX7_takeTable_77 rfl hM.s9 (by omega) ?_
        refine wk_aload_n (i := 0) (q := 79) dX7_takeTable_78 rfl rfl rfl ?_
        refine wk_getR (fi := 10) (q := 82) dX7_takeTable_79 rfl fl_X7_28 rfl rfl hM.ob hM.r10 ?_
        refine wk_iload_n (i := 1) (q := 83) dX7_takeTable_82 rfl rfl rfl ?_
        refine wk_aload_n (i := 0) (q := 84) dX7_takeTable_83 rfl rfl rfl ?_
        refine wk_getR (fi := 25) (q := 87) dX7_takeTable_84 rfl fl_X7_55 rfl rfl hM.ob hM.r25 ?_
        refine wk_iload_n (i := 1) (q := 88) dX7_takeTable_87 rfl rfl rfl ?_
        refine wk_iald (q := 89) dX7_takeTable_88 rfl hM.s25 (by omega) ?_
        refine wk_iast (q := 90) dX7_takeTable_89 rfl hM.s10 (by omega) ?_
        refine wk_aload_n (i := 0) (q := 91) dX7_takeTable_90 rfl rfl rfl ?_
        refine wk_getR (fi := 11) (q := 94) dX7_takeTable_91 rfl fl_X7_31 rfl rfl hM.ob hM.r11 ?_
        refine wk_iload_n (i := 1) (q := 95) dX7_takeTable_94 rfl rfl rfl ?_
        refine wk_aload_n (i := 0) (q := 96) dX7_takeTable_95 rfl rfl rfl ?_
        refine wk_getR (fi := 26) (q := 99) dX7_takeTable_96 rfl fl_X7_58 rfl rfl hM.ob hM.r26 ?_
        refine wk_iload_n (i := 1) (q := 100) dX7_takeTable_99 rfl rfl rfl ?_
        refine wk_iald (q := 101) dX7_takeTable_100 rfl hM.s26 (by omega) ?_
        refine wk_iast (q := 102) dX7_takeTable_101 rfl hM.s11 (by omega) ?_
        refine wk_aload_n (i := 0) (q := 103) dX7_takeTable_102 rfl rfl rfl ?_
        refine wk_getR (fi := 14) (q := 106) dX7_takeTable_103 rfl fl_X7_40 rfl rfl hM.ob hM.r14 ?_
        refine wk_iload_n (i := 1) (q := 107) dX7_takeTable_106 rfl rfl rfl ?_
        refine wk_iload_n (i := 1) (q := 108) dX7_takeTable_107 rfl rfl rfl ?_
        refine wk_iast (q := 109) dX7_takeTable_108 rfl hM.s14 (by omega) ?_
        refine wk_aload_n (i := 0) (q := 110) dX7_takeTable_109 rfl rfl rfl ?_
        refine wk_getR (fi := 15) (q := 113) dX7_takeTable_110 rfl fl_X7_43 rfl rfl hM.ob hM.r15 ?_
        refine wk_iload_n (i := 1) (q := 114) dX7_takeTable_113 rfl rfl rfl ?_
        refine wk_bipush (q := 116) dX7_takeTable_114 rfl (by decide +kernel) ?_
        refine wk_iast (q := 117) dX7_takeTable_116 rfl hM.s15 (by omega) ?_
        refine wk_iinc (lo' := [(0, _), (1, _)]) (q := 120) dX7_takeTable_117 rfl rfl (by decide) rfl ?_
        refine wk_goto (t := 58) dX7_takeTable_120 rfl ?_
        refine ih _ (fun b i q1 q2 => by rw [up_na _ _ _ _ (by omega), up_na _ _ _ _ (by omega), up_na _ _ _ _ (by omega), up_na _ _ _ _ (by omega), up_na _ _ _ _ (by omega)]; exact f1 b i q1 q2) (by rw [up_na _ _ _ _ (by omega), up_na _ _ _ _ (by omega), up_na _ _ _ _ (by omega), up_na _ _ _ _ (by omega), up_na _ _ _ _ (by omega)]; exact e5) (by rw [up_na _ _ _ _ (by omega), up_na _ _ _ _ (by omega), up_na _ _ _ _ (by omega), up_na _ _ _ _ (by omega), up_na _ _ _ _ (by omega)]; exact e6) (fun d d0 d1 => ⟨by rw [up_na _ _ _ _ (by omega), up_na _ _ _ _ (by omega), up_na _ _ _ _ (by omega), up_na _ _ _ _ (by omega), up_na _ _ _ _ (by omega)]; exact (f2 d d0 d1).1, by rw [up_na _ _ _ _ (by omega), up_na _ _ _ _ (by omega), up_na _ _ _ _ (by omega), up_na _ _ _ _ (by omega), up_na _ _ _ _ (by omega)]; exact (f2 d d0 d1).2⟩) (fun g g0 g1 => ?_)
        by_cases q : g = (k : Int)
        · subst q
          refine ⟨?_, ?_, ?_, ?_, up_eq _ _ _ _⟩
          · rw [up_na _ _ _ _ (by omega), up_na _ _ _ _ (by omega), up_na _ _ _ _ (by omega), up_na _ _ _ _ (by omega), up_eq, z1, w1]
          · rw [up_na _ _ _ _ (by omega), up_na _ _ _ _ (by omega), up_na _ _ _ _ (by omega), up_eq, up_na _ _ _ _ (by omega), z2, w2]
          · rw [up_na _ _ _ _ (by omega), up_na _ _ _ _ (by omega), up_eq, up_na _ _ _ _ (by omega), up_na _ _ _ _ (by omega), z3, w3]
          · rw [up_na _ _ _ _ (by omega), up_eq]
        · obtain ⟨y1, y2, y3, y4, y5⟩ := f3 g g0 (by omega)
          exact ⟨by rw [up_off (by omega), up_off (by omega), up_off (by omega), up_off (by omega), up_off (by omega)]; exact y1, by rw [up_off (by omega), up_off (by omega), up_off (by omega), up_off (by omega), up_off (by omega)]; exact y2, by rw [up_off (by omega), up_off (by omega), up_off (by omega), up_off (by omega), up_off (by omega)]; exact y3, by rw [up_off (by omega), up_off (by omega), up_off (by omega), up_off (by omega), up_off (by omega)]; exact y4, by rw [up_off (by omega), up_off (by omega), up_off (by omega), up_off (by omega), up_off (by omega)]; exact y5⟩
  have loopD : ∀ k : Nat, k ≤ T.nd.toNat → ∀ I1 : qI, (∀ b i, ¬ (b = m ∧ (i = 5 ∨ i = 6)) → ¬ (m + 4 ≤ b ∧ b ≤ m + 12) → I1 b i = I b i) → I1 m 5 = T.ng → I1 m 6 = T.nd → (∀ d : Int, 0 ≤ d → d < k → I1 (m + 4) d = T.mn d ∧ I1 (m + 5) d = T.pr d) → Wk l E (qmo E 0 n 0 0 (qV n sh (fun I' L' R' => L' = L ∧ R' = R ∧ tkP I I' m T))) mX7_takeTable 0 0 18
      [(0, .ref m), (1, .int (zI (k : Int)))] [] (n, sh, I1, L, R) := by
    refine up_ind T.nd.toNat ?_ ?_
    · intro I1 f1 e5 e6 f2
      refine wk_iload_n (i := 1) (q := 19) dX7_takeTable_18 rfl rfl rfl ?_
      refine wk_aload_n (i := 0) (q := 20) dX7_takeTable_19 rfl rfl rfl ?_
      refine wk_getI (fi := 6) (q := 23) dX7_takeTable_20 rfl fl_X7_128 rfl rfl hM.ob ?_
      refine wk_icmp_ge (t := 56) (q := 26) dX7_takeTable_23 rfl rfl (by omega) (by omega) (fun hc23 => ?_) (fun hc23 => ?_)
      · refine wk_iconst (q := 57) dX7_takeTable_56 rfl ?_
        refine wk_istore_n (i := 1) (lo' := [(0, _), (1, _)]) (q := 58) dX7_takeTable_57 rfl rfl (by decide) rfl ?_
        exact loopG 0 (Nat.zero_le _) I1 f1 e5 e6 (fun d d0 d1 => f2 d d0 (by omega)) (fun i i0 i1 => by omega)
      · omega
    · intro k hk ih I1 f1 e5 e6 f2
      obtain ⟨z1, z2, -⟩ := (fr f1) (k : Int)
      obtain ⟨w1, w2⟩ := hd (k : Int) (by omega) (by omega)
      refine wk_iload_n (i := 1) (q := 19) dX7_takeTable_18 rfl rfl rfl ?_
      refine wk_aload_n (i := 0) (q := 20) dX7_takeTable_19 rfl rfl rfl ?_
      refine wk_getI (fi := 6) (q := 23) dX7_takeTable_20 rfl fl_X7_128 rfl rfl hM.ob ?_
      refine wk_icmp_ge (t := 56) (q := 26) dX7_takeTable_23 rfl rfl (by omega) (by omega) (fun hc23 => ?_) (fun hc23 => ?_)
      · omega
      · refine wk_aload_n (i := 0) (q := 27) dX7_takeTable_26 rfl rfl rfl ?_
        refine wk_getR (fi := 7) (q := 30) dX7_takeTable_27 rfl fl_X7_19 rfl rfl hM.ob hM.r7 ?_
        refine wk_iload_n (i := 1) (q := 31) dX7_takeTable_30 rfl rfl rfl ?_
        refine wk_aload_n (i := 0) (q := 32) dX7_takeTable_31 rfl rfl rfl ?_
        refine wk_getR (fi := 22) (q := 35) dX7_takeTable_32 rfl fl_X7_46 rfl rfl hM.ob hM.r22 ?_
        refine wk_iload_n (i := 1) (q := 36) dX7_takeTable_35 rfl rfl rfl ?_
        refine wk_iald (q := 37) dX7_takeTable_36 rfl hM.s22 (by omega) ?_
        refine wk_iast (q := 38) dX7_takeTable_37 rfl hM.s7 (by omega) ?_
        refine wk_aload_n (i := 0) (q := 39) dX7_takeTable_38 rfl rfl rfl ?_
        refine wk_getR (fi := 8) (q := 42) dX7_takeTable_39 rfl fl_X7_22 rfl rfl hM.ob hM.r8 ?_
        refine wk_iload_n (i := 1) (q := 43) dX7_takeTable_42 rfl rfl rfl ?_
        refine wk_aload_n (i := 0) (q := 44) dX7_takeTable_43 rfl rfl rfl ?_
        refine wk_getR (fi := 23) (q := 47) dX7_takeTable_44 rfl fl_X7_49 rfl rfl hM.ob hM.r23 ?_
        refine wk_iload_n (i := 1) (q := 48) dX7_takeTable_47 rfl rfl rfl ?_
        refine wk_iald (q := 49) dX7_takeTable_48 rfl hM.s23 (by omega) ?_
        refine wk_iast (q := 50) dX7_takeTable_49 rfl hM.s8 (by omega) ?_
        refine wk_iinc (lo' := [(0, _), (1, _)]) (q := 53) dX7_takeTable_50 rfl rfl (by decide) rfl ?_
        refine wk_goto (t := 18) dX7_takeTable_53 rfl ?_
        refine ih _ (fun b i q1 q2 => by rw [up_na _ _ _ _ (by omega), up_na _ _ _ _ (by omega)]; exact f1 b i q1 q2) (by rw [up_na _ _ _ _ (by omega), up_na _ _ _ _ (by omega)]; exact e5) (by rw [up_na _ _ _ _ (by omega), up_na _ _ _ _ (by omega)]; exact e6) (fun d d0 d1 => ?_)
        by_cases q : d = (k : Int)
        · subst q
          exact ⟨by rw [up_na _ _ _ _ (by omega), up_eq, z1, w1], by rw [up_eq, up_na _ _ _ _ (by omega), z2, w2]⟩
        · exact ⟨by rw [up_off (by omega), up_off (by omega)]; exact (f2 d d0 (by omega)).1, by rw [up_off (by omega), up_off (by omega)]; exact (f2 d d0 (by omega)).2⟩
  refine Ct.of (lo := [(0, _)]) ok_X7_takeTable (Nat.le_of_ble_eq_true rfl) rfl ?_
  refine wk_aload_n (i := 0) (q := 1) dX7_takeTable_0 rfl rfl rfl ?_
  refine wk_aload_n (i := 0) (q := 2) dX7_takeTable_1 rfl rfl rfl ?_
  refine wk_getI (fi := 20) (q := 5) dX7_takeTable_2 rfl fl_X7_155 rfl rfl hM.ob ?_
  refine wk_putI (fi := 5) (q := 8) dX7_takeTable_5 rfl fl_X7_125 fw_7_5 rfl rfl hM.ob ?_
  refine wk_aload_n (i := 0) (q := 9) dX7_takeTable_8 rfl rfl rfl ?_
  refine wk_aload_n (i := 0) (q := 10) dX7_takeTable_9 rfl rfl rfl ?_
  refine wk_getI (fi := 21) (q := 13) dX7_takeTable_10 rfl fl_X7_158 rfl rfl hM.ob ?_
  refine wk_putI (fi := 6) (q := 16) dX7_takeTable_13 rfl fl_X7_128 fw_7_6 rfl rfl hM.ob ?_
  refine wk_iconst (q := 17) dX7_takeTable_16 rfl ?_
  refine wk_istore_n (i := 1) (lo' := [(0, _), (1, _)]) (q := 18) dX7_takeTable_17 rfl rfl (by decide) rfl ?_
  refine loopD 0 (Nat.zero_le _) _ (fun b i q1 q2 => by rw [up_off (by omega), up_off (by omega)]) ?_ ?_ (fun d d0 d1 => by omega)
  · rw [up_ni _ _ (by omega), up_eq]
    exact h20
  · rw [up_eq, up_ni _ _ (by omega)]
    exact h21
theorem om_table {m : Nat} {V : VV} {k so i z : Int} (hM : qMod E.2.2 n sh R m) (h : MI I m V) (hk : in32 k) (hso : in32 so) (hi : in32 i) (hz : in32 z) :
    Ct l E 4 mX7_table [.ref m, .int (zI k), .int (zI so), .int (zI i), .int (zI z)] (n, sh, I, L, R) 0 0 (qZ n sh (mpZ m I L R (r_table V k so i z) (s_table V k so i z))) := by
  have hng := h.1.ng
  have h0 := h.fault 0
  refine Ct.of (lo := [(0, _), (1, _), (2, _), (3, _), (4, _)]) ok_X7_table (Nat.le_of_ble_eq_true rfl) rfl ?_
  refine wk_aload_n (i := 0) (q := 1) dX7_table_0 rfl rfl rfl ?_
  refine wk_iconst (q := 2) dX7_table_1 rfl ?_
  refine wk_putI (fi := 0) (q := 5) dX7_table_2 rfl fl_X7_115 fw_7_0 rfl rfl hM.ob ?_
  refine wk_iload_n (i := 1) (q := 6) dX7_table_5 rfl rfl rfl ?_
  refine wk_sP1 (q := 9) dX7_table_6 rfl sl_X7_134 (ct_X7_isSheet hk) (qRo_m ok_X7_isSheet (by decide) (Nat.le_refl _) (Nat.le_refl _)) (Nat.le_of_ble_eq_true rfl) (fun v6 hv6 => ?_)
  rcases hv6 with ⟨rfl, hv6⟩ | ⟨rfl, hv6⟩
  · refine wk_if_ne (t := 14) (q := 12) dX7_table_9 rfl rfl (by omega) (fun _ => ?_) (fun hq => absurd hq (by decide))
    refine wk_iload_n (i := 2) (q := 15) dX7_table_14 rfl rfl rfl ?_
    refine wk_sP1 (q := 18) dX7_table_15 rfl sl_X7_138 (ct_X7_isSort hso) (qRo_m ok_X7_isSort (by decide) (Nat.le_refl _) (Nat.le_refl _)) (Nat.le_of_ble_eq_true rfl) (fun v15 hv15 => ?_)
    rcases hv15 with ⟨rfl, hv15⟩ | ⟨rfl, hv15⟩
    · refine wk_if_ne (t := 24) (q := 21) dX7_table_18 rfl rfl (by omega) (fun _ => ?_) (fun hq => absurd hq (by decide))
      refine wk_aload_n (i := 0) (q := 25) dX7_table_24 rfl rfl rfl ?_
      refine wk_iload_n (i := 1) (q := 26) dX7_table_25 rfl rfl rfl ?_
      refine wk_iload_n (i := 2) (q := 27) dX7_table_26 rfl rfl rfl ?_
      refine wk_iload_n (i := 3) (q := 28) dX7_table_27 rfl rfl rfl ?_
      refine wk_iload (i := 4) (q := 30) dX7_table_28 rfl rfl ?_
      have rf := refRF (V := V) (i := i) (z := z) hv6 hv15
      refine wk_cP4 (q := 33) dX7_table_30 rfl vl_X7_141 ⟨_, _, rfl⟩ hM.ob (ct_X7_against hM (h.fault 0).sh h.1.1 hv6 hv15 hi hz) (qRo_m ok_X7_against (by decide) (Nat.le_refl _) (Nat.le_refl _)) (Nat.le_of_ble_eq_true rfl) (fun v30 hv30 => ?_)
      have hv30' : v30 = refF V k so i z := hv30
      refine wk_istore (i := 5) (lo' := [(0, _), (1, _), (2, _), (3, _), (4, _), (5, _)]) (q := 35) dX7_table_33 rfl (by decide) rfl ?_
      refine wk_iload (i := 5) (q := 37) dX7_table_35 rfl rfl ?_
      refine wk_if_eq (t := 47) (q := 40) dX7_table_37 rfl rfl (by omega) (fun hc37 => ?_) (fun hc37 => ?_)
      · have r0 := refR_0 (show refR V k so i z = 0 by omega)
        have sok := h.1.1 k r0.1.1 r0.1.2
        have ssh := (h.2.2.2.2.1 k r0.1.1 r0.1.2).2.2
        have x0 : txM (up (up I m 0 0) m 19 (100 * k + i)) m k (V.ce k) (i + z) i := ⟨fun p p0 p1 => ⟨by rw [up_na _ _ _ _ (by omega), up_na _ _ _ _ (by omega)]; exact ssh p p0 p1, sok.2.2.2.2 p p0 p1⟩, up_eq _ _ _ _, by omega, by omega, by omega, by omega, by omega, by omega⟩
        refine wk_bipush (q := 49) dX7_table_47 rfl (by decide +kernel) ?_
        refine wk_iload_n (i := 1) (q := 50) dX7_table_49 rfl rfl rfl ?_
        refine wk_imul (q := 51) dX7_table_50 rfl ?_
        refine wk_iload_n (i := 3) (q := 52) dX7_table_51 rfl rfl rfl ?_
        refine wk_iadd (q := 53) dX7_table_52 rfl ?_
        refine wk_istore (i := 6) (lo' := [(0, _), (1, _), (2, _), (3, _), (4, _), (5, _), (6, _)]) (q := 55) dX7_table_53 rfl (by decide) rfl ?_
        refine wk_aload_n (i := 0) (q := 56) dX7_table_55 rfl rfl rfl ?_
        refine wk_iload (i := 6) (q := 58) dX7_table_56 rfl rfl ?_
        refine wk_putI (fi := 19) (q := 61) dX7_table_58 rfl fl_X7_131 fw_7_19 rfl rfl hM.ob ?_
        refine wk_aload_n (i := 0) (q := 62) dX7_table_61 rfl rfl rfl ?_
        refine wk_iload (i := 6) (q := 64) dX7_table_62 rfl rfl ?_
        refine wk_iload (i := 4) (q := 66) dX7_table_64 rfl rfl ?_
        refine wk_iadd (q := 67) dX7_table_66 rfl ?_
        rw [show 100 * k + i + z = 100 * k + (i + z) by omega]
        refine wk_cZ1 (q := 70) dX7_table_67 rfl vl_X7_149 ⟨_, _, rfl⟩ hM.ob (ct_X7_readTable hM x0) (qRo_m ok_X7_readTable (by decide) (Nat.le_refl _) (Nat.le_refl _)) (Nat.le_of_ble_eq_true rfl) (fun v67 I67 L67 R67 hv67 => ?_)
        rcases hv67 with ⟨rfl, hv67⟩ | ⟨rfl, hv67⟩
        · obtain ⟨rfl, rfl, p67, x67, f67⟩ := hv67
          refine wk_if_ne (t := 84) (q := 73) dX7_table_70 rfl rfl (by omega) (fun _ => ?_) (fun hq => absurd hq (by decide))
          obtain ⟨g1, g2, g3, g4, g5⟩ := f67
          have tok := rdT_ok p67
          have eng : (rdT (V.ce k) i (i + z)).ng = (((rdR (V.ce k) i (i + z)).2.2 : Nat) : Int) := rfl
          have hmT : MI I67 m (V.setFa 0) := (h0.sc (fun b j q => by rw [g1 b j (by omega) (by omega), up_off (by omega)]))
          have hgd : ∀ g, 0 ≤ g → g < (rdT (V.ce k) i (i + z)).ng → I67 (m + 15) g = (rdT (V.ce k) i (i + z)).kd g ∧ I67 (m + 16) g = (rdT (V.ce k) i (i + z)).kn g ∧ I67 (m + 17) g = (rdT (V.ce k) i (i + z)).ct g ∧ ∀ d, 0 ≤ d → d < (rdT (V.ce k) i (i + z)).nd → I67 (m + 18) (6 * g + d) = (rdT (V.ce k) i (i + z)).wo g d := fun g g0 g1' => by
            rw [eng] at g1'
            obtain ⟨j, rfl⟩ := Int.eq_ofNat_of_zero_le g0
            obtain ⟨y1, y2, y3, y4⟩ := g5 j (by omega)
            have ep : gpT (V.ce k) i (i + z) (j : Int) = gp (V.ce k) (i + z) (mOf (V.ce k) i) (i + 2 + 2 * mOf (V.ce k) i) j := by
              unfold gpT
              rw [Int.toNat_natCast]
            refine ⟨?_, ?_, ?_, fun d d0 d1 => ?_⟩
            · show _ = kdL (V.ce k) (gpT (V.ce k) i (i + z) (j : Int) + 1)
              rw [ep]
              exact y1
            · show _ = (V.ce k) (gpT (V.ce k) i (i + z) (j : Int) + 2) - 48
              rw [ep, y2, show gp (V.ce k) (i + z) (mOf (V.ce k) i) (i + 2 + 2 * mOf (V.ce k) i) j + 1 + 1 = gp (V.ce k) (i + z) (mOf (V.ce k) i) (i + 2 + 2 * mOf (V.ce k) i) j + 2 by omega]
            · show _ = if (V.ce k) (gpT (V.ce k) i (i + z) (j : Int) + 1) = 112 then (V.ce k) (gpT (V.ce k) i (i + z) (j : Int) + 3) - 48 else 0
              rw [ep, y3, show gp (V.ce k) (i + z) (mOf (V.ce k) i) (i + 2 + 2 * mOf (V.ce k) i) j + 1 + 2 = gp (V.ce k) (i + z) (mOf (V.ce k) i) (i + 2 + 2 * mOf (V.ce k) i) j + 3 by omega]
            · have d1' : d < (mOf (V.ce k) i : Int) := d1
              obtain ⟨q, rfl⟩ := Int.eq_ofNat_of_zero_le d0
              show _ = wv (V.ce k) (wOf (V.ce k) (gpT (V.ce k) i (i + z) (j : Int) + 1) + (q : Int))
              rw [ep]
              exact y4 q (by omega)
          refine wk_aload_n (i := 0) (q := 85) dX7_table_84 rfl rfl rfl ?_
          refine wk_cV0 (q := 88) dX7_table_85 rfl vl_X7_152 ⟨_, _, rfl⟩ hM.ob (ct_X7_takeTable (T := rdT (V.ce k) i (i + z)) hM tok g2 g3 (fun d d0 d1 => by have d1' : d < (mOf (V.ce k) i : Int) := d1; obtain ⟨j, rfl⟩ := Int.eq_ofNat_of_zero_le d0; exact g4 j (by omega)) hgd) (qRo_m ok_X7_takeTable (by decide) (Nat.le_refl _) (Nat.le_refl _)) (Nat.le_of_ble_eq_true rfl) (fun I85 L85 R85 hv85 => ?_)
          obtain ⟨rfl, rfl, k1, k2, k3, k4⟩ := hv85
          refine wk_aload_n (i := 0) (q := 89) dX7_table_88 rfl rfl rfl ?_
          refine wk_getI (fi := 5) (q := 92) dX7_table_89 rfl fl_X7_125 rfl rfl hM.ob ?_
          rw [k2.1, eng]
          refine wk_iret dX7_table_92 rfl ⟨Nat.le_refl _, Nat.le_refl _⟩ rfl ?_
          have hss : s_table V k so i z = takT (V.setFa 0) (rdT (V.ce k) i (i + z)) := by
            unfold s_table
            rw [if_neg (by omega), if_pos p67]
          have hrs : r_table V k so i z = (((rdR (V.ce k) i (i + z)).2.2 : Nat) : Int) := by
            unfold r_table
            rw [if_neg (by omega), if_pos p67]
          rw [hss, hrs]
          refine ⟨_, _, _, _, rfl, rfl, rfl, ⟨⟨h.1.1, Or.inr ⟨tok, rdC_ok tok, rdLA tok⟩⟩, k4, ?_, ?_, ?_, k2, fun _ => k3⟩, fun b j q => ?_, rfl, rfl⟩
          · rw [k1 _ _ (by omega) (by omega)]
            exact hmT.2.2.1
          · rw [k1 _ _ (by omega) (by omega)]
            exact hmT.2.2.2.1
          · intro a a0 a1
            obtain ⟨y1, y2, y3⟩ := hmT.2.2.2.2.1 a a0 a1
            exact ⟨by rw [k1 _ _ (by omega) (by omega)]; exact y1, by rw [k1 _ _ (by omega) (by omega)]; exact y2, fun j j0 j1 => by rw [k1 _ _ (by omega) (by omega)]; exact y3 j j0 j1⟩
          · rw [k1 _ _ (by omega) (by omega), g1 _ _ (by omega) (by omega), up_na _ _ _ _ (by omega), up_na _ _ _ _ (by omega)]
        · obtain ⟨rfl, rfl, p67, x67, f67⟩ := hv67
          refine wk_if_ne (t := 84) (q := 73) dX7_table_70 rfl rfl (by omega) (fun hq => absurd hq (by decide)) (fun _ => ?_)
          refine wk_bipush (q := 75) dX7_table_73 rfl (by decide +kernel) ?_
          refine wk_aload_n (i := 0) (q := 76) dX7_table_75 rfl rfl rfl ?_
          refine wk_getI (fi := 19) (q := 79) dX7_table_76 rfl fl_X7_131 rfl rfl hM.ob ?_
          refine wk_iload (i := 6) (q := 81) dX7_table_79 rfl rfl ?_
          refine wk_isub (q := 82) dX7_table_81 rfl ?_
          refine wk_isub (q := 83) dX7_table_82 rfl ?_
          rw [x67.2.1]
          refine wk_iret dX7_table_83 rfl ⟨Nat.le_refl _, Nat.le_refl _⟩ rfl ?_
          refine ⟨_, _, _, _, rfl, rfl, ?_, ?_, fun b j q => ?_, rfl, rfl⟩
          · unfold r_table
            rw [if_neg (by omega), if_neg p67]
            omega
          · unfold s_table
            rw [if_neg (by omega), if_neg p67]
            exact h0.sc (fun b j q => by rw [f67 b j (by omega) (by omega), up_off (by omega)])
          · rw [f67 _ _ (by omega) (by omega), up_na _ _ _ _ (by omega), up_na _ _ _ _ (by omega)]
      · refine wk_aload_n (i := 0) (q := 41) dX7_table_40 rfl rfl rfl ?_
        refine wk_iload (i := 5) (q := 43) dX7_table_41 rfl rfl ?_
        refine wk_cZ1 (q := 46) dX7_table_43 rfl vl_X7_145 ⟨_, _, rfl⟩ hM.ob (ct_X7_fails hM) (qRo_m ok_X7_fails (by decide) (Nat.le_refl _) (Nat.le_refl _)) (Nat.le_of_ble_eq_true rfl) (fun v43 I43 L43 R43 hv43 => ?_)
        obtain ⟨rfl, rfl, rfl, rfl⟩ := hv43
        rw [up2_0]
        refine wk_iret dX7_table_46 rfl ⟨Nat.le_refl _, Nat.le_refl _⟩ rfl ?_
        refine mp_fault h rfl ?_ ?_
        · unfold s_table
          rw [if_pos (by omega), hv30']
        · unfold r_table
          rw [if_pos (by omega)]
          omega
    · refine wk_if_ne (t := 24) (q := 21) dX7_table_18 rfl rfl (by omega) (fun hq => absurd hq (by decide)) (fun _ => ?_)
      refine wk_bipush (q := 23) dX7_table_21 rfl (by decide +kernel) ?_
      refine wk_iret dX7_table_23 rfl ⟨Nat.le_refl _, Nat.le_refl _⟩ rfl ?_
      refine mp_fault h rfl ?_ ?_
      · unfold s_table
        first
          | (have e := refRF_a (V := V) (so := so) (i := i) (z := z) hv6
             rw [if_pos (by omega), e.2])
          | (have e := refRF_b (V := V) (i := i) (z := z) hv6 hv15
             rw [if_pos (by omega), e.2])
      · unfold r_table
        first
          | (have e := refRF_a (V := V) (so := so) (i := i) (z := z) hv6
             rw [if_pos (by omega), e.1])
          | (have e := refRF_b (V := V) (i := i) (z := z) hv6 hv15
             rw [if_pos (by omega), e.1])
  · refine wk_if_ne (t := 14) (q := 12) dX7_table_9 rfl rfl (by omega) (fun hq => absurd hq (by decide)) (fun _ => ?_)
    refine wk_iconst (q := 13) dX7_table_12 rfl ?_
    refine wk_iret dX7_table_13 rfl ⟨Nat.le_refl _, Nat.le_refl _⟩ rfl ?_
    refine mp_fault h rfl ?_ ?_
    · unfold s_table
      first
        | (have e := refRF_a (V := V) (so := so) (i := i) (z := z) hv6
           rw [if_pos (by omega), e.2])
        | (have e := refRF_b (V := V) (i := i) (z := z) hv6 hv15
           rw [if_pos (by omega), e.2])
    · unfold r_table
      first
        | (have e := refRF_a (V := V) (so := so) (i := i) (z := z) hv6
           rw [if_pos (by omega), e.1])
        | (have e := refRF_b (V := V) (i := i) (z := z) hv6 hv15
           rw [if_pos (by omega), e.1])
end TEXT7
