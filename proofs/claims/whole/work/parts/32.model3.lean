/-! the reference: a course, an evening -/
section MODEL3
variable {l : Launch} {E : qEv} {n : Nat} {sh : qSh} {I L : qI} {R : qR}
def crP (I I' : qI) (m : Nat) (T : TT) (C : CC) (c : Int) (e : ES) : Prop := frM I I' m ∧ I' m 33 = I m 33 ∧ mE I' m T (askN T C c C.se.toNat e) ∧ (∀ g, 0 ≤ g → g < T.ng → I' (m + 23) g = (askN T C c C.se.toNat e).gl g) ∧ (∀ s, 0 ≤ s → s < C.se → I' (m + 22) (7 * c + tgt C s) = (askN T C c C.se.toNat e).go c (tgt C s)) ∧ ∀ i, ¬ (7 * c ≤ i ∧ i < 7 * c + 7) → I' (m + 22) i = I (m + 22) i
theorem ct_X7_goCourse {m : Nat} {T : TT} {C : CC} {e : ES} {c : Int} (hM : qMod E.2.2 n sh R m) (hok : T.ok) (hC : C.ok T) (hmT : mT I m T) (hmC : mC I m T C) (hmE : mE I m T e) (hES : ESok T e) (hgl : ∀ g, 0 ≤ g → g < T.ng → I (m + 23) g = e.gl g) (hc : 0 ≤ c ∧ c < 8) (hsp : I m 33 = mS C) :
    Ct l E 3 mX7_goCourse [.ref m, .int (zI c)] (n, sh, I, L, R) 0 0 (qV n sh (fun I' L' R' => L' = L ∧ R' = R ∧ crP I I' m T C c e)) := by
  have hn := hok.2.1
  have hnd := hok.2.2.2.1
  obtain ⟨z1, z2, z3, z4, z5, z6, z7, z8, z9, z10, z11⟩ := id hC
  obtain ⟨eN, heN⟩ : ∃ eN, eN = askN T C c C.se.toNat e := ⟨_, rfl⟩
  have hESN : ESok T eN := by rw [heN]; exact hES.askN hok _
  -- the second loop
  have loop2 : ∀ s : Nat, s ≤ C.se.toNat → ∀ I2 : qI, (frM I I2 m ∧ I2 m 33 = I m 33 ∧ mE I2 m T eN ∧ (∀ s' : Int, 0 ≤ s' → s' < s → I2 (m + 23) (C.od s') = eN.gl (C.od s')) ∧ (∀ g, 0 ≤ g → g < T.ng → (∀ s' : Int, 0 ≤ s' → s' < s → g ≠ C.od s') → I2 (m + 23) g = e.gl g) ∧ (∀ s', 0 ≤ s' → s' < C.se → I2 (m + 22) (7 * c + tgt C s') = eN.go c (tgt C s')) ∧ ∀ i, ¬ (7 * c ≤ i ∧ i < 7 * c + 7) → I2 (m + 22) i = I (m + 22) i) →
      Wk l E (qmo E 3 n 0 0 (qV n sh (fun I' L' R' => L' = L ∧ R' = R ∧ crP I I' m T C c e))) mX7_goCourse 0 0 110 [(0, .ref m), (1, .int (zI c)), (2, .int (zI (s : Int)))] [] (n, sh, I2, L, R) := by
    refine up_ind C.se.toNat ?_ ?_
    · rintro I2 ⟨j1, j2, j3, j4, j5, j6, j7⟩
      have hse := (hmC.fr j1).1
      have fin : ∀ g, 0 ≤ g → g < T.ng → I2 (m + 23) g = (askN T C c C.se.toNat e).gl g := by
        intro g g0 g1
        by_cases hs : ∃ s' : Int, 0 ≤ s' ∧ s' < C.se ∧ g = C.od s'
        · obtain ⟨s', s0, s1, rfl⟩ := hs
          rw [← heN]
          exact j4 s' s0 (by omega)
        · have hs2 : ∀ s' : Int, 0 ≤ s' → s' < C.se → g ≠ C.od s' := fun s' s0 s1 q => hs ⟨s', s0, s1, q⟩
          rw [gl_out g hs2 hC _ (by omega)]
          exact j5 g g0 g1 (fun s' s0 s1 => hs2 s' s0 (by omega))
      rw [heN] at j3 j6
      refine wk_iload_n (i := 2) (q := 111) dX7_goCourse_110 rfl rfl rfl ?_
      refine wk_aload_n (i := 0) (q := 112) dX7_goCourse_111 rfl rfl rfl ?_
      refine wk_getI (fi := 28) (q := 115) dX7_goCourse_112 rfl fl_X7_194 rfl rfl hM.ob ?_
      refine wk_icmp_ge (t := 203) (q := 118) dX7_goCourse_115 rfl rfl (by omega) (by omega) (fun hc115 => ?_) (fun hc115 => ?_)
      · refine wk_ret dX7_goCourse_203 rfl ⟨Nat.le_refl _, Nat.le_refl _⟩ rfl ?_
        exact ⟨_, _, _, rfl, rfl, rfl, rfl, j1, j2, j3, fin, j6, j7⟩
      · omega
    · rintro s hs ihs I2 ⟨j1, j2, j3, j4, j5, j6, j7⟩
      have hse := (hmC.fr j1).1
      have hst := (hmC.fr j1).2.1
      have hod := (hmC.fr j1).2.2.2.1
      have hix := tgt_ix hC (s := s)
      have ho := od_in hC (s := (s : Int)) (by omega) (by omega)
      have ht := tgt_in hC (s : Int)
      have hsb := askSeat_in hC (s : Int)
      have hst2 := askSeat_tgt hC (i := (s : Int)) (by omega) (by omega)
      have g1 := j6 (askSeat C s) hsb.1 hsb.2
      rw [hst2] at g1
      have g2 := j6 s (by omega) (by omega)
      have r1 := hESN.2 _ ho.1 ho.2
      have r2 := hESN.2 _ ht.1 ht.2
      have q1 : eN.la (C.od s) = eN.go c (C.od s) := by rw [← hst2, heN]; exact la_go hok hC _ (by omega) _ hsb.1 (by omega)
      have q2 : eN.la (tgt C s) = eN.go c (tgt C s) := by rw [heN]; exact la_go hok hC _ (by omega) _ (by omega) (by omega)
      rw [q1] at r1
      rw [q2] at r2
      have kn := ((hmT.fr j1).2.2.2 _ ho.1 ho.2).2.1
      have gl0 := j5 (C.od s) ho.1 ho.2 (fun s' s0 s1 q => by have := od_inj hC (a := s) (b := s') (by omega) (by omega) q; omega)
      have hgc := gl_course hok (c := c) (e := e) hC (i := (s : Int)) (by omega)
      rw [← heN] at hgc
      refine wk_iload_n (i := 2) (q := 111) dX7_goCourse_110 rfl rfl rfl ?_
      refine wk_aload_n (i := 0) (q := 112) dX7_goCourse_111 rfl rfl rfl ?_
      refine wk_getI (fi := 28) (q := 115) dX7_goCourse_112 rfl fl_X7_194 rfl rfl hM.ob ?_
      refine wk_icmp_ge (t := 203) (q := 118) dX7_goCourse_115 rfl rfl (by omega) (by omega) (fun hc115 => ?_) (fun hc115 => ?_)
      · omega
      · refine wk_aload_n (i := 0) (q := 119) dX7_goCourse_118 rfl rfl rfl ?_
        refine wk_getR (fi := 29) (q := 122) dX7_goCourse_119 rfl fl_X7_64 rfl rfl hM.ob hM.r29 ?_
        refine wk_iload_n (i := 2) (q := 123) dX7_goCourse_122 rfl rfl rfl ?_
        refine wk_iald (q := 124) dX7_goCourse_123 rfl hM.s29 (by omega) ?_
        rw [hod s (by omega) (by omega)]
        refine wk_istore_n (i := 3) (lo' := [(0, _), (1, _), (2, _), (3, _)]) (q := 125) dX7_goCourse_124 rfl rfl (by decide) rfl ?_
        refine wk_aload_n (i := 0) (q := 126) dX7_goCourse_125 rfl rfl rfl ?_
        refine wk_getR (fi := 29) (q := 129) dX7_goCourse_126 rfl fl_X7_64 rfl rfl hM.ob hM.r29 ?_
        refine wk_iload_n (i := 2) (q := 130) dX7_goCourse_129 rfl rfl rfl ?_
        refine wk_aload_n (i := 0) (q := 131) dX7_goCourse_130 rfl rfl rfl ?_
        refine wk_getI (fi := 30) (q := 134) dX7_goCourse_131 rfl fl_X7_197 rfl rfl hM.ob ?_
        refine wk_iadd (q := 135) dX7_goCourse_134 rfl ?_
        refine wk_aload_n (i := 0) (q := 136) dX7_goCourse_135 rfl rfl rfl ?_
        refine wk_getI (fi := 28) (q := 139) dX7_goCourse_136 rfl fl_X7_194 rfl rfl hM.ob ?_
        refine wk_irem (q := 140) dX7_goCourse_139 rfl (by omega) (by omega) ?_
        rw [hse, hst]
        refine wk_iald (q := 141) dX7_goCourse_140 rfl hM.s29 (by omega) ?_
        rw [hod _ hix.1 hix.2, show C.od ((↑s + C.st) % C.se) = tgt C s from rfl]
        refine wk_istore (i := 4) (lo' := [(0, _), (1, _), (2, _), (3, _), (4, _)]) (q := 143) dX7_goCourse_141 rfl (by decide) rfl ?_
        refine wk_aload_n (i := 0) (q := 144) dX7_goCourse_143 rfl rfl rfl ?_
        refine wk_getR (fi := 35) (q := 147) dX7_goCourse_144 rfl fl_X7_76 rfl rfl hM.ob hM.r35 ?_
        refine wk_iload_n (i := 3) (q := 148) dX7_goCourse_147 rfl rfl rfl ?_
        refine wk_dup2 (q := 149) dX7_goCourse_148 rfl rfl rfl ?_
        refine wk_iald (q := 150) dX7_goCourse_149 rfl hM.s35 (by omega) ?_
        refine wk_bipush (q := 152) dX7_goCourse_150 rfl (by decide +kernel) ?_
        refine wk_aload_n (i := 0) (q := 153) dX7_goCourse_152 rfl rfl rfl ?_
        refine wk_iload_n (i := 3) (q := 154) dX7_goCourse_153 rfl rfl rfl ?_
        refine wk_aload_n (i := 0) (q := 155) dX7_goCourse_154 rfl rfl rfl ?_
        refine wk_getR (fi := 34) (q := 158) dX7_goCourse_155 rfl fl_X7_73 rfl rfl hM.ob hM.r34 ?_
        refine wk_bipush (q := 160) dX7_goCourse_158 rfl (by decide +kernel) ?_
        refine wk_iload_n (i := 1) (q := 161) dX7_goCourse_160 rfl rfl rfl ?_
        refine wk_imul (q := 162) dX7_goCourse_161 rfl ?_
        refine wk_iload_n (i := 3) (q := 163) dX7_goCourse_162 rfl rfl rfl ?_
        refine wk_iadd (q := 164) dX7_goCourse_163 rfl ?_
        refine wk_iald (q := 165) dX7_goCourse_164 rfl hM.s34 (by omega) ?_
        rw [g1]
        refine wk_cP2 (q := 168) dX7_goCourse_165 rfl vl_X7_203 ⟨_, _, rfl⟩ hM.ob (ct_X7_truly hM hok (hmT.fr j1) ho r1) (qRo_m ok_X7_truly (by decide) (Nat.le_refl _) (Nat.le_refl _)) (Nat.le_of_ble_eq_true rfl) (fun v165 hv165 => ?_)
        subst hv165
        refine wk_imul (q := 169) dX7_goCourse_168 rfl ?_
        refine wk_aload_n (i := 0) (q := 170) dX7_goCourse_169 rfl rfl rfl ?_
        refine wk_getR (fi := 10) (q := 173) dX7_goCourse_170 rfl fl_X7_28 rfl rfl hM.ob hM.r10 ?_
        refine wk_iload_n (i := 3) (q := 174) dX7_goCourse_173 rfl rfl rfl ?_
        refine wk_iald (q := 175) dX7_goCourse_174 rfl hM.s10 (by omega) ?_
        refine wk_aload_n (i := 0) (q := 176) dX7_goCourse_175 rfl rfl rfl ?_
        refine wk_iload (i := 4) (q := 178) dX7_goCourse_176 rfl rfl ?_
        refine wk_aload_n (i := 0) (q := 179) dX7_goCourse_178 rfl rfl rfl ?_
        refine wk_getR (fi := 34) (q := 182) dX7_goCourse_179 rfl fl_X7_73 rfl rfl hM.ob hM.r34 ?_
        refine wk_bipush (q := 184) dX7_goCourse_182 rfl (by decide +kernel) ?_
        refine wk_iload_n (i := 1) (q := 185) dX7_goCourse_184 rfl rfl rfl ?_
        refine wk_imul (q := 186) dX7_goCourse_185 rfl ?_
        refine wk_iload (i := 4) (q := 188) dX7_goCourse_186 rfl rfl ?_
        refine wk_iadd (q := 189) dX7_goCourse_188 rfl ?_
        refine wk_iald (q := 190) dX7_goCourse_189 rfl hM.s34 (by omega) ?_
        rw [g2]
        refine wk_cP2 (q := 193) dX7_goCourse_190 rfl vl_X7_203 ⟨_, _, rfl⟩ hM.ob (ct_X7_truly hM hok (hmT.fr j1) ht r2) (qRo_m ok_X7_truly (by decide) (Nat.le_refl _) (Nat.le_refl _)) (Nat.le_of_ble_eq_true rfl) (fun v190 hv190 => ?_)
        subst hv190
        refine wk_imul (q := 194) dX7_goCourse_193 rfl ?_
        refine wk_iadd (q := 195) dX7_goCourse_194 rfl ?_
        refine wk_iadd (q := 196) dX7_goCourse_195 rfl ?_
        refine wk_iast (q := 197) dX7_goCourse_196 rfl hM.s35 (by omega) ?_
        refine wk_iinc (lo' := [(0, _), (1, _), (2, _), (3, _), (4, _)]) (q := 200) dX7_goCourse_197 rfl rfl (by decide) rfl ?_
        refine wk_goto (t := 110) dX7_goCourse_200 rfl ?_
        refine wk_del (i := 4) (lo' := [(0, _), (1, _), (2, _), (3, _)]) rfl ?_
        refine wk_del (i := 3) (lo' := [(0, _), (1, _), (2, _)]) rfl ?_
        refine ihs _ ⟨fun b i p0 p1 p2 => by rw [up_na _ _ _ _ (by omega)]; exact j1 b i p0 p1 p2, by rw [up_na _ _ _ _ (by omega)]; exact j2, ⟨fun d d0 d1 => by rw [up_na _ _ _ _ (by omega)]; exact j3.1 d d0 d1, fun g g0 g1 => by rw [up_na _ _ _ _ (by omega), up_na _ _ _ _ (by omega)]; exact j3.2 g g0 g1⟩, fun s' s0 s1 => ?_, fun g g0 g1 hg => ?_, fun s' s0 s1 => by rw [up_na _ _ _ _ (by omega)]; exact j6 s' s0 s1, fun i hi => by rw [up_na _ _ _ _ (by omega)]; exact j7 i hi⟩
        · by_cases hq : s' = s
          · rw [hq, up_eq, gl0, kn, hgc]
          · rw [up_ni _ _ (fun q => hq (od_inj hC ⟨s0, by omega⟩ ⟨by omega, by omega⟩ q))]
            exact j4 s' s0 (by omega)
        · rw [up_ni _ _ (hg s (by omega) (by omega))]
          exact j5 g g0 g1 (fun s' s0 s1 => hg s' s0 (by omega))
  -- the first loop
  have loop1 : ∀ s : Nat, s ≤ C.se.toNat → ∀ I1 : qI, (frM I I1 m ∧ I1 m 33 = I m 33 ∧ mE I1 m T (askN T C c s e) ∧ (∀ g, I1 (m + 23) g = I (m + 23) g) ∧ (∀ s' : Int, 0 ≤ s' → s' < s → I1 (m + 22) (7 * c + tgt C s') = (askN T C c s e).go c (tgt C s')) ∧ ∀ i, ¬ (7 * c ≤ i ∧ i < 7 * c + 7) → I1 (m + 22) i = I (m + 22) i) →
      Wk l E (qmo E 3 n 0 0 (qV n sh (fun I' L' R' => L' = L ∧ R' = R ∧ crP I I' m T C c e))) mX7_goCourse 0 0 2 [(0, .ref m), (1, .int (zI c)), (2, .int (zI (s : Int)))] [] (n, sh, I1, L, R) := by
    refine up_ind C.se.toNat ?_ ?_
    · rintro I1 ⟨j1, j2, j3, j4, j5, j6⟩
      have hse := (hmC.fr j1).1
      rw [← heN] at j3 j5
      refine wk_iload_n (i := 2) (q := 3) dX7_goCourse_2 rfl rfl rfl ?_
      refine wk_aload_n (i := 0) (q := 4) dX7_goCourse_3 rfl rfl rfl ?_
      refine wk_getI (fi := 28) (q := 7) dX7_goCourse_4 rfl fl_X7_194 rfl rfl hM.ob ?_
      refine wk_icmp_ge (t := 108) (q := 10) dX7_goCourse_7 rfl rfl (by omega) (by omega) (fun hc7 => ?_) (fun hc7 => ?_)
      · refine wk_iconst (q := 109) dX7_goCourse_108 rfl ?_
        refine wk_istore_n (i := 2) (lo' := [(0, _), (1, _), (2, _)]) (q := 110) dX7_goCourse_109 rfl rfl (by decide) rfl ?_
        exact loop2 0 (Nat.zero_le _) I1 ⟨j1, j2, j3, fun s' s0 s1 => by omega, fun g g0 g1 _ => by rw [j4]; exact hgl g g0 g1, fun s' s0 s1 => j5 s' s0 (by omega), j6⟩
      · omega
    · rintro s hs ihs I1 ⟨j1, j2, j3, j4, j5, j6⟩
      have hse := (hmC.fr j1).1
      have hst := (hmC.fr j1).2.1
      have hod := (hmC.fr j1).2.2.2.1
      have hix := tgt_ix hC (s := s)
      have ho := od_in hC (s := (s : Int)) (by omega) (by omega)
      have ht := tgt_in hC (s : Int)
      have hESs := hES.askN hok (C := C) (c := c) s
      obtain ⟨d, hd⟩ : ∃ d, d = askD T C c s (askN T C c s e) := ⟨_, rfl⟩
      have hdin := askD_in hok C c s (askN T C c s e)
      rw [← hd] at hdin
      have close : ∀ I' : qI, (∀ b i, b ≠ m + 20 → b ≠ m + 22 → b ≠ m + 24 → b ≠ m + 25 → I' b i = I1 b i) → (∀ i, I' (m + 20) i = up I1 (m + 20) (tgt C s) d (m + 20) i) → (∀ i, I' (m + 22) i = up I1 (m + 22) (7 * c + tgt C s) d (m + 22) i) → (∀ x, 0 ≤ x → x < T.nd → I' (m + 25) x = (askS T C c s (askN T C c s e)).le x) → (∀ g, 0 ≤ g → g < T.ng → I' (m + 24) g = (askS T C c s (askN T C c s e)).pa g) →
          Wk l E (qmo E 3 n 0 0 (qV n sh (fun I' L' R' => L' = L ∧ R' = R ∧ crP I I' m T C c e))) mX7_goCourse 0 0 2 [(0, .ref m), (1, .int (zI c)), (2, .int (zI ((s : Int) + 1)))] [] (n, sh, I', L, R) := by
        intro I' f1 f2 f3 f4 f5
        refine ihs I' ⟨fun b i p0 p1 p2 => by rw [f1 b i p1 (by omega) (by omega) (by omega)]; exact j1 b i p0 p1 p2, by rw [f1 _ _ (by omega) (by omega) (by omega) (by omega)]; exact j2, ⟨f4, fun g g0 g1 => ⟨?_, f5 g g0 g1⟩⟩, fun g => by rw [f1 _ _ (by omega) (by omega) (by omega) (by omega)]; exact j4 g, fun s' s0 s1 => ?_, fun i hi => ?_⟩
        · rw [f2]
          show _ = u1 (askN T C c s e).la (tgt C s) (askD T C c s (askN T C c s e)) g
          rw [← hd]
          by_cases hg : g = tgt C s
          · rw [hg, up_eq, u1_eq]
          · rw [up_ni _ _ hg, u1_ne hg, (j3.2 g g0 g1).1]
        · rw [f3]
          show _ = u2 (askN T C c s e).go c (tgt C s) (askD T C c s (askN T C c s e)) c (tgt C s')
          rw [← hd]
          by_cases hg : tgt C s' = tgt C s
          · rw [hg, up_eq, u2_eq]
          · have hne : s' ≠ s := fun q => hg (by rw [q])
            rw [up_ni _ _ (by omega), u2_ne (Or.inr hg)]
            exact j5 s' s0 (by omega)
        · rw [f3, up_ni _ _ (by omega)]
          exact j6 i hi
      refine wk_iload_n (i := 2) (q := 3) dX7_goCourse_2 rfl rfl rfl ?_
      refine wk_aload_n (i := 0) (q := 4) dX7_goCourse_3 rfl rfl rfl ?_
      refine wk_getI (fi := 28) (q := 7) dX7_goCourse_4 rfl fl_X7_194 rfl rfl hM.ob ?_
      refine wk_icmp_ge (t := 108) (q := 10) dX7_goCourse_7 rfl rfl (by omega) (by omega) (fun hc7 => ?_) (fun hc7 => ?_)
      · omega
      · refine wk_aload_n (i := 0) (q := 11) dX7_goCourse_10 rfl rfl rfl ?_
        refine wk_getR (fi := 29) (q := 14) dX7_goCourse_11 rfl fl_X7_64 rfl rfl hM.ob hM.r29 ?_
        refine wk_iload_n (i := 2) (q := 15) dX7_goCourse_14 rfl rfl rfl ?_
        refine wk_iald (q := 16) dX7_goCourse_15 rfl hM.s29 (by omega) ?_
        rw [hod s (by omega) (by omega)]
        refine wk_istore_n (i := 3) (lo' := [(0, _), (1, _), (2, _), (3, _)]) (q := 17) dX7_goCourse_16 rfl rfl (by decide) rfl ?_
        refine wk_aload_n (i := 0) (q := 18) dX7_goCourse_17 rfl rfl rfl ?_
        refine wk_getR (fi := 29) (q := 21) dX7_goCourse_18 rfl fl_X7_64 rfl rfl hM.ob hM.r29 ?_
        refine wk_iload_n (i := 2) (q := 22) dX7_goCourse_21 rfl rfl rfl ?_
        refine wk_aload_n (i := 0) (q := 23) dX7_goCourse_22 rfl rfl rfl ?_
        refine wk_getI (fi := 30) (q := 26) dX7_goCourse_23 rfl fl_X7_197 rfl rfl hM.ob ?_
        refine wk_iadd (q := 27) dX7_goCourse_26 rfl ?_
        refine wk_aload_n (i := 0) (q := 28) dX7_goCourse_27 rfl rfl rfl ?_
        refine wk_getI (fi := 28) (q := 31) dX7_goCourse_28 rfl fl_X7_194 rfl rfl hM.ob ?_
        refine wk_irem (q := 32) dX7_goCourse_31 rfl (by omega) (by omega) ?_
        rw [hse, hst]
        refine wk_iald (q := 33) dX7_goCourse_32 rfl hM.s29 (by omega) ?_
        rw [hod _ hix.1 hix.2, show C.od ((↑s + C.st) % C.se) = tgt C s from rfl]
        refine wk_istore (i := 4) (lo' := [(0, _), (1, _), (2, _), (3, _), (4, _)]) (q := 35) dX7_goCourse_33 rfl (by decide) rfl ?_
        refine wk_aload_n (i := 0) (q := 36) dX7_goCourse_35 rfl rfl rfl ?_
        refine wk_iload_n (i := 3) (q := 37) dX7_goCourse_36 rfl rfl rfl ?_
        refine wk_iload (i := 4) (q := 39) dX7_goCourse_37 rfl rfl ?_
        refine wk_iload_n (i := 1) (q := 40) dX7_goCourse_39 rfl rfl rfl ?_
        refine wk_cP3 (q := 43) dX7_goCourse_40 rfl vl_X7_220 ⟨_, _, rfl⟩ hM.ob (ct_X7_asked (e := askN T C c s e) hM hok hC (hmT.fr j1) (hmC.fr j1) j3 hESs ho ht hc (j2.trans hsp)) (qRo_m ok_X7_asked (by decide) (Nat.le_refl _) (Nat.le_refl _)) (Nat.le_of_ble_eq_true rfl) (fun v40 hv40 => ?_)
        rw [show v40 = d by rw [hv40, hd]; rfl]
        refine wk_istore (i := 5) (lo' := [(0, _), (1, _), (2, _), (3, _), (4, _), (5, _)]) (q := 45) dX7_goCourse_43 rfl (by decide) rfl ?_
        refine wk_aload_n (i := 0) (q := 46) dX7_goCourse_45 rfl rfl rfl ?_
        refine wk_getR (fi := 34) (q := 49) dX7_goCourse_46 rfl fl_X7_73 rfl rfl hM.ob hM.r34 ?_
        refine wk_bipush (q := 51) dX7_goCourse_49 rfl (by decide +kernel) ?_
        refine wk_iload_n (i := 1) (q := 52) dX7_goCourse_51 rfl rfl rfl ?_
        refine wk_imul (q := 53) dX7_goCourse_52 rfl ?_
        refine wk_iload (i := 4) (q := 55) dX7_goCourse_53 rfl rfl ?_
        refine wk_iadd (q := 56) dX7_goCourse_55 rfl ?_
        refine wk_iload (i := 5) (q := 58) dX7_goCourse_56 rfl rfl ?_
        refine wk_iast (q := 59) dX7_goCourse_58 rfl hM.s34 (by omega) ?_
        refine wk_aload_n (i := 0) (q := 60) dX7_goCourse_59 rfl rfl rfl ?_
        refine wk_getR (fi := 31) (q := 63) dX7_goCourse_60 rfl fl_X7_67 rfl rfl hM.ob hM.r31 ?_
        refine wk_iload (i := 4) (q := 65) dX7_goCourse_63 rfl rfl ?_
        refine wk_iload (i := 5) (q := 67) dX7_goCourse_65 rfl rfl ?_
        refine wk_iast (q := 68) dX7_goCourse_67 rfl hM.s31 (by omega) ?_
        refine wk_iload (i := 5) (q := 70) dX7_goCourse_68 rfl rfl ?_
        refine wk_bipush (q := 72) dX7_goCourse_70 rfl (by decide +kernel) ?_
        refine wk_icmp_eq (t := 102) (q := 75) dX7_goCourse_72 rfl rfl (by omega) (by omega) (fun hc72 => ?_) (fun hc72 => ?_)
        · refine wk_iinc (lo' := [(0, _), (1, _), (2, _), (3, _), (4, _), (5, _)]) (q := 105) dX7_goCourse_102 rfl rfl (by decide) rfl ?_
          refine wk_goto (t := 2) dX7_goCourse_105 rfl ?_
          refine wk_del (i := 5) (lo' := [(0, _), (1, _), (2, _), (3, _), (4, _)]) rfl ?_
          refine wk_del (i := 4) (lo' := [(0, _), (1, _), (2, _), (3, _)]) rfl ?_
          refine wk_del (i := 3) (lo' := [(0, _), (1, _), (2, _)]) rfl ?_
          skip
          have pr9 : 0 ≤ d → up (up (up I1 (m + 22) (7 * c + tgt C s) d) (m + 20) (tgt C s) d) (m + 25) d (up (up I1 (m + 22) (7 * c + tgt C s) d) (m + 20) (tgt C s) d (m + 25) d - 1) (m + 5) d = T.pr d := fun h => by
            rw [up_na _ _ _ _ (by omega), up_na _ _ _ _ (by omega), up_na _ _ _ _ (by omega)]
            exact ((hmT.fr j1).2.2.1 d h (by omega)).2
          first
            | (refine close _ (fun b i p0 p1 p2 p3 => ?_) (fun i => ?_) (fun i => ?_) (fun x x0 x1 => ?_) (fun g g0 g1 => ?_)
               · rw [up_na _ _ _ _ p2, up_na _ _ _ _ p3, up_na _ _ _ _ p0, up_na _ _ _ _ p1]
               · rw [up_na _ _ _ _ (by omega), up_na _ _ _ _ (by omega)]
                 unfold up
                 simp
               · rw [up_na _ _ _ _ (by omega), up_na _ _ _ _ (by omega), up_na _ _ _ _ (by omega)]
               · rw [up_na _ _ _ _ (by omega)]
                 show _ = (if askD T C c s (askN T C c s e) < 0 then (askN T C c s e).le else u1 (askN T C c s e).le (askD T C c s (askN T C c s e)) ((askN T C c s e).le (askD T C c s (askN T C c s e)) - 1)) x
                 rw [← hd, if_neg (by omega)]
                 by_cases hx : x = d
                 · rw [hx, up_eq, u1_eq, up_na _ _ _ _ (by omega), up_na _ _ _ _ (by omega), j3.1 d (by omega) (by omega)]
                 · rw [up_ni _ _ hx, u1_ne hx, up_na _ _ _ _ (by omega), up_na _ _ _ _ (by omega), j3.1 x x0 x1]
               · rw [pr9 (by omega)]
                 show _ = (if askD T C c s (askN T C c s e) < 0 then (askN T C c s e).pa else u1 (askN T C c s e).pa (C.od s) ((askN T C c s e).pa (C.od s) + T.pr (askD T C c s (askN T C c s e)))) g
                 rw [← hd, if_neg (by omega)]
                 by_cases hg : g = C.od s
                 · rw [hg, up_eq, u1_eq, up_na _ _ _ _ (by omega), up_na _ _ _ _ (by omega), up_na _ _ _ _ (by omega), (j3.2 _ ho.1 ho.2).2]
                 · rw [up_ni _ _ hg, u1_ne hg, up_na _ _ _ _ (by omega), up_na _ _ _ _ (by omega), up_na _ _ _ _ (by omega), (j3.2 g g0 g1).2])
            | (refine close _ (fun b i p0 p1 p2 p3 => ?_) (fun i => ?_) (fun i => ?_) (fun x x0 x1 => ?_) (fun g g0 g1 => ?_)
               · rw [up_na _ _ _ _ p0, up_na _ _ _ _ p1]
               · unfold up
                 simp
               · rw [up_na _ _ _ _ (by omega)]
               · rw [up_na _ _ _ _ (by omega), up_na _ _ _ _ (by omega)]
                 show _ = (if askD T C c s (askN T C c s e) < 0 then (askN T C c s e).le else _) x
                 rw [← hd, if_pos (by omega), j3.1 x x0 x1]
               · rw [up_na _ _ _ _ (by omega), up_na _ _ _ _ (by omega)]
                 show _ = (if askD T C c s (askN T C c s e) < 0 then (askN T C c s e).pa else _) g
                 rw [← hd, if_pos (by omega), (j3.2 g g0 g1).2])
        · refine wk_aload_n (i := 0) (q := 76) dX7_goCourse_75 rfl rfl rfl ?_
          refine wk_getR (fi := 37) (q := 79) dX7_goCourse_76 rfl fl_X7_82 rfl rfl hM.ob hM.r37 ?_
          refine wk_iload (i := 5) (q := 81) dX7_goCourse_79 rfl rfl ?_
          refine wk_dup2 (q := 82) dX7_goCourse_81 rfl rfl rfl ?_
          refine wk_iald (q := 83) dX7_goCourse_82 rfl hM.s37 (by omega) ?_
          refine wk_iconst (q := 84) dX7_goCourse_83 rfl ?_
          refine wk_isub (q := 85) dX7_goCourse_84 rfl ?_
          refine wk_iast (q := 86) dX7_goCourse_85 rfl hM.s37 (by omega) ?_
          refine wk_aload_n (i := 0) (q := 87) dX7_goCourse_86 rfl rfl rfl ?_
          refine wk_getR (fi := 36) (q := 90) dX7_goCourse_87 rfl fl_X7_79 rfl rfl hM.ob hM.r36 ?_
          refine wk_iload_n (i := 3) (q := 91) dX7_goCourse_90 rfl rfl rfl ?_
          refine wk_dup2 (q := 92) dX7_goCourse_91 rfl rfl rfl ?_
          refine wk_iald (q := 93) dX7_goCourse_92 rfl hM.s36 (by omega) ?_
          refine wk_aload_n (i := 0) (q := 94) dX7_goCourse_93 rfl rfl rfl ?_
          refine wk_getR (fi := 8) (q := 97) dX7_goCourse_94 rfl fl_X7_22 rfl rfl hM.ob hM.r8 ?_
          refine wk_iload (i := 5) (q := 99) dX7_goCourse_97 rfl rfl ?_
          refine wk_iald (q := 100) dX7_goCourse_99 rfl hM.s8 (by omega) ?_
          refine wk_iadd (q := 101) dX7_goCourse_100 rfl ?_
          refine wk_iast (q := 102) dX7_goCourse_101 rfl hM.s36 (by omega) ?_
          refine wk_iinc (lo' := [(0, _), (1, _), (2, _), (3, _), (4, _), (5, _)]) (q := 105) dX7_goCourse_102 rfl rfl (by decide) rfl ?_
          refine wk_goto (t := 2) dX7_goCourse_105 rfl ?_
          refine wk_del (i := 5) (lo' := [(0, _), (1, _), (2, _), (3, _), (4, _)]) rfl ?_
          refine wk_del (i := 4) (lo' := [(0, _), (1, _), (2, _), (3, _)]) rfl ?_
          refine wk_del (i := 3) (lo' := [(0, _), (1, _), (2, _)]) rfl ?_
          skip
          have pr9 : 0 ≤ d → up (up (up I1 (m + 22) (7 * c + tgt C s) d) (m + 20) (tgt C s) d) (m + 25) d (up (up I1 (m + 22) (7 * c + tgt C s) d) (m + 20) (tgt C s) d (m + 25) d - 1) (m + 5) d = T.pr d := fun h => by
            rw [up_na _ _ _ _ (by omega), up_na _ _ _ _ (by omega), up_na _ _ _ _ (by omega)]
            exact ((hmT.fr j1).2.2.1 d h (by omega)).2
          first
            | (refine close _ (fun b i p0 p1 p2 p3 => ?_) (fun i => ?_) (fun i => ?_) (fun x x0 x1 => ?_) (fun g g0 g1 => ?_)
               · rw [up_na _ _ _ _ p2, up_na _ _ _ _ p3, up_na _ _ _ _ p0, up_na _ _ _ _ p1]
               · rw [up_na _ _ _ _ (by omega), up_na _ _ _ _ (by omega)]
                 unfold up
                 simp
               · rw [up_na _ _ _ _ (by omega), up_na _ _ _ _ (by omega), up_na _ _ _ _ (by omega)]
               · rw [up_na _ _ _ _ (by omega)]
                 show _ = (if askD T C c s (askN T C c s e) < 0 then (askN T C c s e).le else u1 (askN T C c s e).le (askD T C c s (askN T C c s e)) ((askN T C c s e).le (askD T C c s (askN T C c s e)) - 1)) x
                 rw [← hd, if_neg (by omega)]
                 by_cases hx : x = d
                 · rw [hx, up_eq, u1_eq, up_na _ _ _ _ (by omega), up_na _ _ _ _ (by omega), j3.1 d (by omega) (by omega)]
                 · rw [up_ni _ _ hx, u1_ne hx, up_na _ _ _ _ (by omega), up_na _ _ _ _ (by omega), j3.1 x x0 x1]
               · rw [pr9 (by omega)]
                 show _ = (if askD T C c s (askN T C c s e) < 0 then (askN T C c s e).pa else u1 (askN T C c s e).pa (C.od s) ((askN T C c s e).pa (C.od s) + T.pr (askD T C c s (askN T C c s e)))) g
                 rw [← hd, if_neg (by omega)]
                 by_cases hg : g = C.od s
                 · rw [hg, up_eq, u1_eq, up_na _ _ _ _ (by omega), up_na _ _ _ _ (by omega), up_na _ _ _ _ (by omega), (j3.2 _ ho.1 ho.2).2]
                 · rw [up_ni _ _ hg, u1_ne hg, up_na _ _ _ _ (by omega), up_na _ _ _ _ (by omega), up_na _ _ _ _ (by omega), (j3.2 g g0 g1).2])
            | (refine close _ (fun b i p0 p1 p2 p3 => ?_) (fun i => ?_) (fun i => ?_) (fun x x0 x1 => ?_) (fun g g0 g1 => ?_)
               · rw [up_na _ _ _ _ p0, up_na _ _ _ _ p1]
               · unfold up
                 simp
               · rw [up_na _ _ _ _ (by omega)]
               · rw [up_na _ _ _ _ (by omega), up_na _ _ _ _ (by omega)]
                 show _ = (if askD T C c s (askN T C c s e) < 0 then (askN T C c s e).le else _) x
                 rw [← hd, if_pos (by omega), j3.1 x x0 x1]
               · rw [up_na _ _ _ _ (by omega), up_na _ _ _ _ (by omega)]
                 show _ = (if askD T C c s (askN T C c s e) < 0 then (askN T C c s e).pa else _) g
                 rw [← hd, if_pos (by omega), (j3.2 g g0 g1).2])
  refine Ct.of (lo := [(0, _), (1, _)]) ok_X7_goCourse (Nat.le_of_ble_eq_true rfl) rfl ?_
  have loop0 := loop1 0 (Nat.zero_le _) I ⟨frM.rf, rfl, hmE, fun _ => rfl, fun s' s0 s1 => by omega, fun _ _ => rfl⟩
  refine wk_iconst (q := 1) dX7_goCourse_0 rfl ?_
  refine wk_istore_n (i := 2) (lo' := [(0, _), (1, _), (2, _)]) (q := 2) dX7_goCourse_1 rfl rfl (by decide) rfl ?_
  exact loop0
end MODEL3
