/-! the reference's spite (2) -/
theorem wseN_stop {V : VV} {g : Int} {e c : Nat} (h1 : wseN V g e c = -9) (h2 : truly V.T g (goB V g e c) < truly V.T g (goA V g e c)) : ∀ N : Nat, c < N → (N : Int) ≤ V.C.co → wseN V g e N = (e : Int) * V.C.co + c
  | 0, q, _ => by omega
  | N + 1, q1, q2 => by
    have m2 : 0 ≤ (e : Int) * V.C.co := Int.mul_nonneg (by omega) (by omega)
    by_cases hq : c = N
    · rw [← hq]
      unfold wseN
      rw [if_neg (by omega), if_pos h2]
    · have := wseN_stop h1 h2 N (by omega) (by omega)
      unfold wseN
      rw [if_pos (by omega)]
      exact this
section SPITE4
variable {l : Launch} {E : qEv} {n : Nat} {sh : qSh} {I L : qI} {R : qR}
theorem om_spite {m : Nat} {V : VV} {g w : Int} (hM : qMod E.2.2 n sh R m) (h : MI I m V) (hg : in32 g) (hw : in32 w) :
    Ct l E 5 mX7_spite [.ref m, .int (zI g), .int (zI w)] (n, sh, I, L, R) 0 0 (qZ n sh (mpZ m I L R (r_spite V g w) V)) := by
  have hng := h.1.ng
  have e5 := h.2.2.2.2.2.1.1
  have loop : (0 ≤ g ∧ g < V.T.ng) → (w = 0 ∨ w = 1) → ∀ e : Nat, e ≤ 200 → ∀ I1 : qI, frS I I1 m → mC I1 m V.T V.C → I1 m 33 = -9 → (∀ g', 0 ≤ g' → g' < V.T.ng → I1 (m + 32) g' = laA V e g') → (∀ g', 0 ≤ g' → g' < V.T.ng → I1 (m + 33) g' = laB V g e g') → spS V g e = -1 → (w = 1 → backN V g e = -9) → Wk l E (qmo E 5 n 0 0 (qZ n sh (mpZ m I L R (r_spite V g w) V))) mX7_spite 0 0 44
      [(0, .ref m), (1, .int (zI g)), (2, .int (zI w)), (3, .int (zI (e : Int)))] [] (n, sh, I1, L, R) := by
    intro hgg hw2
    obtain ⟨t1, t2, t3⟩ := h.1.tab (by omega)
    have co1 := t2.1.2.2.2.2.1
    have co8 := t2.1.2.2.2.2.2.1
    obtain ⟨s0, s00, s01, s0g⟩ := t2.all hgg.1 hgg.2
    have hrw : ∀ r : Int, (w = 0 → r = (if spS V g 200 = -1 then -9 else spS V g 200 + 1)) → (w = 1 → r = (if spS V g 200 = -1 then backN V g 200 else backN V g (spS V g 200 + 1).toNat)) → r = r_spite V g w := by
      intro r r0 r1
      unfold r_spite
      rw [if_neg (by omega), if_neg (by omega)]
      by_cases hq : w = 0
      · rw [if_pos hq]
        exact r0 hq
      · rw [if_neg hq]
        exact r1 (by omega)
    refine up_ind 200 ?_ ?_
    · rintro I1 f1 f2 f3 f4 f5 f6 f7
      refine wk_iload_n (i := 3) (q := 45) dX7_spite_44 rfl rfl rfl ?_
      refine wk_sipush (q := 48) dX7_spite_45 rfl (by decide +kernel) ?_
      refine wk_icmp_ge (t := 233) (q := 51) dX7_spite_48 rfl rfl (by omega) (by omega) (fun hc48 => ?_) (fun hc48 => ?_)
      · refine wk_bipush (q := 235) dX7_spite_233 rfl (by decide +kernel) ?_
        refine wk_iret dX7_spite_235 rfl ⟨Nat.le_refl _, Nat.le_refl _⟩ rfl ?_
        refine ⟨_, _, _, _, rfl, rfl, hrw _ (fun q => ?_) (fun q => ?_), h.fs f1, f1.o, rfl, rfl⟩
        · rw [if_pos f6]
        · rw [if_pos f6]
          exact (f7 q).symm
      · omega
    · rintro e he ih I1 f1 f2 f3 f4 f5 f6 f7
      have h1 := h.fs f1
      have e5' := h1.2.2.2.2.2.1.1
      have lA := laA_ok t1 t3 e
      have lB := laB_ok t1 t3 g e
      have lA1 := laA_ok t1 t3 (e + 1)
      have lB1 := laB_ok t1 t3 g (e + 1)
      have okB := spC_ok t2.1 (g := g) (by omega) e
      have mB : ∀ I' : qI, mC I' m V.T V.C → mC I' m V.T (spC V g e) := fun I' z => by
        unfold spC
        split
        · exact z
        · exact z
      have eco : (spC V g e).co = V.C.co := by
        unfold spC
        split <;> rfl
      have ese : (spC V g e).se = V.C.se := by
        unfold spC
        split <;> rfl
      have etg : ∀ s, tgt (spC V g e) s = tgt V.C s := by
        intro s
        unfold spC
        split <;> rfl
      have esp : mS (spC V g e) = if e = 0 then g else -9 := by
        unfold spC mS
        by_cases hq : e = 0
        · rw [if_pos hq, if_pos hq]
          show (if g < 0 then (-9 : Int) else g) = g
          rw [if_neg (by omega)]
        · rw [if_neg hq, if_neg hq, t2.2.2.2.1, if_pos (by omega)]
      have bk1 : backN V g (e + 1) = if backN V g e = -9 then wseN V g e V.C.co.toNat else backN V g e := rfl
      -- behind both evenings
      have tail : ∀ I5 : qI, frS I I5 m → mC I5 m V.T V.C → I5 m 33 = -9 → (∀ g', 0 ≤ g' → g' < V.T.ng → I5 (m + 32) g' = laA V (e + 1) g') → (∀ g', 0 ≤ g' → g' < V.T.ng → I5 (m + 33) g' = laB V g (e + 1) g') → (w = 1 → backN V g (e + 1) = -9) → Wk l E (qmo E 5 n 0 0 (qZ n sh (mpZ m I L R (r_spite V g w) V))) mX7_spite 0 0 207
          [(0, .ref m), (1, .int (zI g)), (2, .int (zI w)), (3, .int (zI (e : Int)))] [] (n, sh, I5, L, R) := by
        intro I5 j1 j2 j3 j4 j5 j6
        have e5'' := (h.fs j1).2.2.2.2.2.1.1
        refine wk_aload_n (i := 0) (q := 208) dX7_spite_207 rfl rfl rfl ?_
        refine wk_cP0 (q := 211) dX7_spite_208 rfl vl_X7_307 ⟨_, _, rfl⟩ hM.ob (ct_X7_areSame hM e5'' (by omega) (fun g' g0 g1 => by have := lA1 g' g0 g1; exact ⟨j4 g' g0 g1, by omega, by omega, by omega⟩) (fun g' g0 g1 => by have := lB1 g' g0 g1; exact ⟨j5 g' g0 g1, by omega, by omega, by omega⟩)) (qRo_m ok_X7_areSame (by decide) (Nat.le_refl _) (Nat.le_refl _)) (Nat.le_of_ble_eq_true rfl) (fun v208 hv208 => ?_)
        rcases hv208 with ⟨rfl, hv208⟩ | ⟨rfl, hv208⟩
        · refine wk_if_eq (t := 227) (q := 214) dX7_spite_211 rfl rfl (by omega) (fun hq => absurd hq (by decide)) (fun _ => ?_)
          refine wk_iload_n (i := 2) (q := 215) dX7_spite_214 rfl rfl rfl ?_
          refine wk_if_ne (t := 224) (q := 218) dX7_spite_215 rfl rfl (by omega) (fun hc215 => ?_) (fun hc215 => ?_)
          · refine wk_bipush (q := 226) dX7_spite_224 rfl (by decide +kernel) ?_
            refine wk_iret dX7_spite_226 rfl ⟨Nat.le_refl _, Nat.le_refl _⟩ rfl ?_
            have hd := spS_at f6 hv208 200 (by omega)
            refine ⟨_, _, _, _, rfl, rfl, hrw _ (fun q => ?_) (fun q => ?_), h.fs j1, j1.o, rfl, rfl⟩
            · rw [hd, if_neg (by omega)]
              try omega
            · rw [hd, if_neg (by omega), show ((e : Int) + 1).toNat = e + 1 by omega, j6 q]
              try omega
          · refine wk_iload_n (i := 3) (q := 219) dX7_spite_218 rfl rfl rfl ?_
            refine wk_iconst (q := 220) dX7_spite_219 rfl ?_
            refine wk_iadd (q := 221) dX7_spite_220 rfl ?_
            refine wk_goto (t := 226) dX7_spite_221 rfl ?_
            refine wk_iret dX7_spite_226 rfl ⟨Nat.le_refl _, Nat.le_refl _⟩ rfl ?_
            have hd := spS_at f6 hv208 200 (by omega)
            refine ⟨_, _, _, _, rfl, rfl, hrw _ (fun q => ?_) (fun q => ?_), h.fs j1, j1.o, rfl, rfl⟩
            · rw [hd, if_neg (by omega)]
              try omega
            · rw [hd, if_neg (by omega), show ((e : Int) + 1).toNat = e + 1 by omega, j6 q]
              try omega
        · refine wk_if_eq (t := 227) (q := 214) dX7_spite_211 rfl rfl (by omega) (fun _ => ?_) (fun hq => absurd hq (by decide))
          refine wk_iinc (lo' := [(0, _), (1, _), (2, _), (3, _)]) (q := 230) dX7_spite_227 rfl rfl (by decide) rfl ?_
          refine wk_goto (t := 44) dX7_spite_230 rfl ?_
          exact ih I5 j1 j2 j3 j4 j5 (spS_go f6 hv208) j6
      -- the courses of the second evening
      have loopB : ∀ I4 : qI, frS I I4 m → mC I4 m V.T V.C → I4 m 33 = -9 → (∀ g', 0 ≤ g' → g' < V.T.ng → I4 (m + 32) g' = laA V (e + 1) g') → (∀ g', 0 ≤ g' → g' < V.T.ng → I4 (m + 33) g' = laB V g (e + 1) g') → (∀ c : Int, 0 ≤ c → c < V.C.co → I4 (m + 34) c = truly V.T g (goA V g e c) ∧ I4 (m + 22) (7 * c + g) = goB V g e c) → ∀ c : Nat, c ≤ V.C.co.toNat → wseN V g e c = -9 → Wk l E (qmo E 5 n 0 0 (qZ n sh (mpZ m I L R (r_spite V g w) V))) mX7_spite 0 0 150
          [(0, .ref m), (1, .int (zI g)), (2, .int (zI w)), (3, .int (zI (e : Int))), (4, .int (zI (c : Int)))] [] (n, sh, I4, L, R) := by
        intro I4 j1 j2 j3 j4 j5 j6
        have h4 := h.fs j1
        have e17 := (h4.2.2.2.2.2.2 (by omega)).2.1
        refine up_ind V.C.co.toNat ?_ ?_
        · intro hw0
          refine wk_iload (i := 4) (q := 152) dX7_spite_150 rfl rfl ?_
          refine wk_aload_n (i := 0) (q := 153) dX7_spite_152 rfl rfl rfl ?_
          refine wk_getI (fi := 17) (q := 156) dX7_spite_153 rfl fl_X7_164 rfl rfl hM.ob ?_
          refine wk_icmp_ge (t := 207) (q := 159) dX7_spite_156 rfl rfl (by omega) (by omega) (fun hc156 => ?_) (fun hc156 => ?_)
          · refine wk_del (i := 4) (lo' := [(0, _), (1, _), (2, _), (3, _)]) rfl ?_
            exact tail I4 j1 j2 j3 j4 j5 (fun q => by rw [bk1, if_pos (f7 q)]; exact hw0)
          · omega
        · intro c hc ihc hw0
          have k1 := j6 c (by omega) (by omega)
          have b1 : -9 ≤ goA V g e c ∧ goA V g e c < V.T.nd := evE_go t1 _ _
          have b2 : -9 ≤ goB V g e c ∧ goB V g e c < V.T.nd := evE_go t1 _ _
          have c1 := truly_in t1 hgg b1
          have c2 := truly_in t1 hgg b2
          have m1 : V.C.co * (e : Int) ≤ 8 * (e : Int) := Int.mul_le_mul_of_nonneg_right co8 (by omega)
          have m2 : 0 ≤ V.C.co * (e : Int) := Int.mul_nonneg (by omega) (by omega)
          refine wk_iload (i := 4) (q := 152) dX7_spite_150 rfl rfl ?_
          refine wk_aload_n (i := 0) (q := 153) dX7_spite_152 rfl rfl rfl ?_
          refine wk_getI (fi := 17) (q := 156) dX7_spite_153 rfl fl_X7_164 rfl rfl hM.ob ?_
          refine wk_icmp_ge (t := 207) (q := 159) dX7_spite_156 rfl rfl (by omega) (by omega) (fun hc156 => ?_) (fun hc156 => ?_)
          · refine wk_del (i := 4) (lo' := [(0, _), (1, _), (2, _), (3, _)]) rfl ?_
            first
            | (exfalso; omega)
            | exact tail I4 j1 j2 j3 j4 j5 (fun q => by omega)
          · refine wk_iload_n (i := 2) (q := 160) dX7_spite_159 rfl rfl rfl ?_
            refine wk_iconst (q := 161) dX7_spite_160 rfl ?_
            refine wk_icmp_ne (t := 207) (q := 164) dX7_spite_161 rfl rfl (by omega) (by omega) (fun hc161 => ?_) (fun hc161 => ?_)
            · refine wk_del (i := 4) (lo' := [(0, _), (1, _), (2, _), (3, _)]) rfl ?_
              first
              | (exfalso; omega)
              | exact tail I4 j1 j2 j3 j4 j5 (fun q => by omega)
            · refine wk_aload_n (i := 0) (q := 165) dX7_spite_164 rfl rfl rfl ?_
              refine wk_iload_n (i := 1) (q := 166) dX7_spite_165 rfl rfl rfl ?_
              refine wk_aload_n (i := 0) (q := 167) dX7_spite_166 rfl rfl rfl ?_
              refine wk_getR (fi := 34) (q := 170) dX7_spite_167 rfl fl_X7_73 rfl rfl hM.ob hM.r34 ?_
              refine wk_bipush (q := 172) dX7_spite_170 rfl (by decide +kernel) ?_
              refine wk_iload (i := 4) (q := 174) dX7_spite_172 rfl rfl ?_
              refine wk_imul (q := 175) dX7_spite_174 rfl ?_
              refine wk_iload_n (i := 1) (q := 176) dX7_spite_175 rfl rfl rfl ?_
              refine wk_iadd (q := 177) dX7_spite_176 rfl ?_
              refine wk_iald (q := 178) dX7_spite_177 rfl hM.s34 (by omega) ?_
              rw [k1.2]
              refine wk_cP2 (q := 181) dX7_spite_178 rfl vl_X7_203 ⟨_, _, rfl⟩ hM.ob (ct_X7_truly hM t1 h4.2.2.2.2.2.1 hgg b2) (qRo_m ok_X7_truly (by decide) (Nat.le_refl _) (Nat.le_refl _)) (Nat.le_of_ble_eq_true rfl) (fun v178 hv178 => ?_)
              subst hv178
              refine wk_aload_n (i := 0) (q := 182) dX7_spite_181 rfl rfl rfl ?_
              refine wk_getR (fi := 49) (q := 185) dX7_spite_182 rfl fl_X7_109 rfl rfl hM.ob hM.r49 ?_
              refine wk_iload (i := 4) (q := 187) dX7_spite_185 rfl rfl ?_
              refine wk_iald (q := 188) dX7_spite_187 rfl hM.s49 (by omega) ?_
              rw [k1.1]
              refine wk_icmp_ge (t := 201) (q := 191) dX7_spite_188 rfl rfl (by omega) (by omega) (fun hc188 => ?_) (fun hc188 => ?_)
              · refine wk_iinc (lo' := [(0, _), (1, _), (2, _), (3, _), (4, _)]) (q := 204) dX7_spite_201 rfl rfl (by decide) rfl ?_
                refine wk_goto (t := 150) dX7_spite_204 rfl ?_
                refine ihc ?_
                unfold wseN
                rw [if_neg (by omega), if_neg (by omega)]
              · refine wk_aload_n (i := 0) (q := 192) dX7_spite_191 rfl rfl rfl ?_
                refine wk_getI (fi := 17) (q := 195) dX7_spite_192 rfl fl_X7_164 rfl rfl hM.ob ?_
                refine wk_iload_n (i := 3) (q := 196) dX7_spite_195 rfl rfl rfl ?_
                rw [e17]
                refine wk_imul (q := 197) dX7_spite_196 rfl ?_
                refine wk_iload (i := 4) (q := 199) dX7_spite_197 rfl rfl ?_
                refine wk_iadd (q := 200) dX7_spite_199 rfl ?_
                refine wk_iret dX7_spite_200 rfl ⟨Nat.le_refl _, Nat.le_refl _⟩ rfl ?_
                have m3 : 0 ≤ (e : Int) * V.C.co := Int.mul_nonneg (by omega) (by omega)
                have hb : backN V g (e + 1) = (e : Int) * V.C.co + c := by
                  rw [bk1, if_pos (f7 hc161)]
                  exact wseN_stop hw0 hc188 _ (by omega) (by omega)
                refine ⟨_, _, _, _, rfl, rfl, hrw _ (fun q => by omega) (fun _ => ?_), h4, j1.o, rfl, rfl⟩
                rw [spite_back f6 he (by rw [hb]; omega), hb, Int.mul_comm]
      -- the courses of the first evening, then the second one
      have loopA : ∀ I2 : qI, frS I I2 m → mC I2 m V.T V.C → I2 m 33 = -9 → (∀ g', 0 ≤ g' → g' < V.T.ng → I2 (m + 32) g' = laA V (e + 1) g') → (∀ g', 0 ≤ g' → g' < V.T.ng → I2 (m + 33) g' = laB V g e g') → (∀ c : Int, 0 ≤ c → c < V.C.co → I2 (m + 22) (7 * c + g) = goA V g e c) → ∀ c : Nat, c ≤ V.C.co.toNat → ∀ I3 : qI, (∀ b i, b ≠ m + 34 → I3 b i = I2 b i) → (∀ c' : Int, 0 ≤ c' → c' < c → I3 (m + 34) c' = truly V.T g (goA V g e c')) → Wk l E (qmo E 5 n 0 0 (qZ n sh (mpZ m I L R (r_spite V g w) V))) mX7_spite 0 0 74
          [(0, .ref m), (1, .int (zI g)), (2, .int (zI w)), (3, .int (zI (e : Int))), (4, .int (zI (c : Int)))] [] (n, sh, I3, L, R) := by
        intro I2 j1 j2 j3 j4 j5 j6
        have h2 := h.fs j1
        refine up_ind V.C.co.toNat ?_ ?_
        · intro I3 k1 k2
          have r1 : frS I I3 m := fun b i q0 q1 => (k1 b i (by omega)).trans (j1 b i q0 q1)
          have h3 := h.fs r1
          have e17 := (h3.2.2.2.2.2.2 (by omega)).2.1
          have e53 := h3.2.2.2.2.2.1.1
          have m3 : mC I3 m V.T V.C := j2.cg (fun b i q => k1 b i (by omega))
          refine wk_iload (i := 4) (q := 76) dX7_spite_74 rfl rfl ?_
          refine wk_aload_n (i := 0) (q := 77) dX7_spite_76 rfl rfl rfl ?_
          refine wk_getI (fi := 17) (q := 80) dX7_spite_77 rfl fl_X7_164 rfl rfl hM.ob ?_
          refine wk_icmp_ge (t := 113) (q := 83) dX7_spite_80 rfl rfl (by omega) (by omega) (fun hc80 => ?_) (fun hc80 => ?_)
          · refine wk_aload_n (i := 0) (q := 114) dX7_spite_113 rfl rfl rfl ?_
            refine wk_aload_n (i := 0) (q := 115) dX7_spite_114 rfl rfl rfl ?_
            refine wk_getR (fi := 48) (q := 118) dX7_spite_115 rfl fl_X7_106 rfl rfl hM.ob hM.r48 ?_
            refine wk_cV1 (q := 121) dX7_spite_118 rfl vl_X7_304 ⟨_, _, rfl⟩ hM.ob (ct_X7_swapIn hM hM.s48 (by omega) e53 (by omega) (fun i i0 i1 => by rw [k1 _ _ (by omega), j5 i i0 i1]; have := lB i i0 i1; omega)) (qRo_m ok_X7_swapIn (by decide) (Nat.le_refl _) (Nat.le_refl _)) (Nat.le_of_ble_eq_true rfl) (fun I118 L118 R118 hv118 => ?_)
            obtain ⟨rfl, rfl, y1, y2⟩ := hv118
            refine wk_aload_n (i := 0) (q := 122) dX7_spite_121 rfl rfl rfl ?_
            refine wk_iload_n (i := 3) (q := 123) dX7_spite_122 rfl rfl rfl ?_
            refine wk_if_ne (t := 130) (q := 126) dX7_spite_123 rfl rfl (by omega) (fun hc123 => ?_) (fun hc123 => ?_)
            · refine wk_bipush (q := 132) dX7_spite_130 rfl (by decide +kernel) ?_
              refine wk_putI (fi := 33) (q := 135) dX7_spite_132 rfl fl_X7_200 fw_7_33 rfl rfl hM.ob ?_
              refine wk_aload_n (i := 0) (q := 136) dX7_spite_135 rfl rfl rfl ?_
              skip
              have z1 : ∀ v b i, ¬ (b = m ∧ i = 33) → b ≠ m + 20 → up I118 m 33 v b i = I3 b i := fun v b i q0 q1 => by rw [up_off q0]; exact y1 b i q1
              refine wk_cV0 (q := 139) dX7_spite_136 rfl vl_X7_227 ⟨_, _, rfl⟩ hM.ob (ct_nightC (C' := spC V g e) (la := laB V g e) hM t1 okB (h3.2.2.2.2.2.1.cg (fun b i q => z1 _ b i (by omega) (by omega))) (mB _ (m3.cg (fun b i q => z1 _ b i (by omega) (by omega)))) (fun g' g0 g1 => by rw [up_na _ _ _ _ (by omega), y2 g' g0 g1, k1 _ _ (by omega)]; exact j5 g' g0 g1) lB.ok (by rw [esp, up_eq]; first | rw [if_pos (by omega)] | rw [if_neg (by omega)])) (qRo_m ok_X7_goNight (by decide) (Nat.le_refl _) (Nat.le_refl _)) (Nat.le_of_ble_eq_true rfl) (fun I136 L136 R136 hv136 => ?_)
              obtain ⟨rfl, rfl, x1, x2, x3⟩ := hv136
              have r4 : frS I I136 m := r1.tr (fun b i q0 q1 => by rw [x1 b i q0 (by omega)]; exact z1 _ b i (by omega) (by omega))
              have e54 := (h.fs r4).2.2.2.2.2.1.1
              have x4 : ∀ g', 0 ≤ g' → g' < V.T.ng → I136 (m + 20) g' = laB V g (e + 1) g' := fun g' g0 g1 => (x3.2.2.1.2 g' g0 g1).1
              refine wk_aload_n (i := 0) (q := 140) dX7_spite_139 rfl rfl rfl ?_
              refine wk_aload_n (i := 0) (q := 141) dX7_spite_140 rfl rfl rfl ?_
              refine wk_getR (fi := 48) (q := 144) dX7_spite_141 rfl fl_X7_106 rfl rfl hM.ob hM.r48 ?_
              refine wk_cV1 (q := 147) dX7_spite_144 rfl vl_X7_300 ⟨_, _, rfl⟩ hM.ob (ct_X7_swapOut hM hM.s48 (by omega) e54 (by omega) (fun i i0 i1 => by rw [x4 i i0 i1]; have := lB1 i i0 i1; omega)) (qRo_m ok_X7_swapOut (by decide) (Nat.le_refl _) (Nat.le_refl _)) (Nat.le_of_ble_eq_true rfl) (fun I144 L144 R144 hv144 => ?_)
              obtain ⟨rfl, rfl, w1, w2⟩ := hv144
              refine wk_iconst (q := 148) dX7_spite_147 rfl ?_
              refine wk_istore (i := 4) (lo' := [(0, _), (1, _), (2, _), (3, _), (4, _)]) (q := 150) dX7_spite_148 rfl (by decide) rfl ?_
              refine loopB _ (r4.tr (fun b i q0 q1 => w1 b i (by omega))) ?_ (by rw [w1 _ _ (by omega)]; exact x3.2.1) (fun g' g0 g1 => ?_) (fun g' g0 g1 => by rw [w2 g' g0 g1]; exact x4 g' g0 g1) (fun c c0 c1 => ⟨?_, ?_⟩) 0 (Nat.zero_le _) rfl
              · refine mC.cg (I := I3) m3 (fun b i q => ?_)
                rw [w1 b i (by omega), x3.1 b i (by omega) (by omega) (by omega)]
                exact z1 _ b i (by omega) (by omega)
              · rw [w1 _ _ (by omega), x1 _ _ (by omega) (by omega), z1 _ _ _ (by omega) (by omega), k1 _ _ (by omega)]
                exact j4 g' g0 g1
              · rw [w1 _ _ (by omega), x1 _ _ (by omega) (by omega), z1 _ _ _ (by omega) (by omega)]
                exact k2 c c0 (by omega)
              · rw [w1 _ _ (by omega)]
                have := x3.2.2.2.2 c s0 c0 (by omega) s00 (by omega)
                rw [etg, s0g] at this
                exact this
            · refine wk_iload_n (i := 1) (q := 127) dX7_spite_126 rfl rfl rfl ?_
              refine wk_goto (t := 132) dX7_spite_127 rfl ?_
              refine wk_putI (fi := 33) (q := 135) dX7_spite_132 rfl fl_X7_200 fw_7_33 rfl rfl hM.ob ?_
              refine wk_aload_n (i := 0) (q := 136) dX7_spite_135 rfl rfl rfl ?_
              skip
              have z1 : ∀ v b i, ¬ (b = m ∧ i = 33) → b ≠ m + 20 → up I118 m 33 v b i = I3 b i := fun v b i q0 q1 => by rw [up_off q0]; exact y1 b i q1
              refine wk_cV0 (q := 139) dX7_spite_136 rfl vl_X7_227 ⟨_, _, rfl⟩ hM.ob (ct_nightC (C' := spC V g e) (la := laB V g e) hM t1 okB (h3.2.2.2.2.2.1.cg (fun b i q => z1 _ b i (by omega) (by omega))) (mB _ (m3.cg (fun b i q => z1 _ b i (by omega) (by omega)))) (fun g' g0 g1 => by rw [up_na _ _ _ _ (by omega), y2 g' g0 g1, k1 _ _ (by omega)]; exact j5 g' g0 g1) lB.ok (by rw [esp, up_eq]; first | rw [if_pos (by omega)] | rw [if_neg (by omega)])) (qRo_m ok_X7_goNight (by decide) (Nat.le_refl _) (Nat.le_refl _)) (Nat.le_of_ble_eq_true rfl) (fun I136 L136 R136 hv136 => ?_)
              obtain ⟨rfl, rfl, x1, x2, x3⟩ := hv136
              have r4 : frS I I136 m := r1.tr (fun b i q0 q1 => by rw [x1 b i q0 (by omega)]; exact z1 _ b i (by omega) (by omega))
              have e54 := (h.fs r4).2.2.2.2.2.1.1
              have x4 : ∀ g', 0 ≤ g' → g' < V.T.ng → I136 (m + 20) g' = laB V g (e + 1) g' := fun g' g0 g1 => (x3.2.2.1.2 g' g0 g1).1
              refine wk_aload_n (i := 0) (q := 140) dX7_spite_139 rfl rfl rfl ?_
              refine wk_aload_n (i := 0) (q := 141) dX7_spite_140 rfl rfl rfl ?_
              refine wk_getR (fi := 48) (q := 144) dX7_spite_141 rfl fl_X7_106 rfl rfl hM.ob hM.r48 ?_
              refine wk_cV1 (q := 147) dX7_spite_144 rfl vl_X7_300 ⟨_, _, rfl⟩ hM.ob (ct_X7_swapOut hM hM.s48 (by omega) e54 (by omega) (fun i i0 i1 => by rw [x4 i i0 i1]; have := lB1 i i0 i1; omega)) (qRo_m ok_X7_swapOut (by decide) (Nat.le_refl _) (Nat.le_refl _)) (Nat.le_of_ble_eq_true rfl) (fun I144 L144 R144 hv144 => ?_)
              obtain ⟨rfl, rfl, w1, w2⟩ := hv144
              refine wk_iconst (q := 148) dX7_spite_147 rfl ?_
              refine wk_istore (i := 4) (lo' := [(0, _), (1, _), (2, _), (3, _), (4, _)]) (q := 150) dX7_spite_148 rfl (by decide) rfl ?_
              refine loopB _ (r4.tr (fun b i q0 q1 => w1 b i (by omega))) ?_ (by rw [w1 _ _ (by omega)]; exact x3.2.1) (fun g' g0 g1 => ?_) (fun g' g0 g1 => by rw [w2 g' g0 g1]; exact x4 g' g0 g1) (fun c c0 c1 => ⟨?_, ?_⟩) 0 (Nat.zero_le _) rfl
              · refine mC.cg (I := I3) m3 (fun b i q => ?_)
                rw [w1 b i (by omega), x3.1 b i (by omega) (by omega) (by omega)]
                exact z1 _ b i (by omega) (by omega)
              · rw [w1 _ _ (by omega), x1 _ _ (by omega) (by omega), z1 _ _ _ (by omega) (by omega), k1 _ _ (by omega)]
                exact j4 g' g0 g1
              · rw [w1 _ _ (by omega), x1 _ _ (by omega) (by omega), z1 _ _ _ (by omega) (by omega)]
                exact k2 c c0 (by omega)
              · rw [w1 _ _ (by omega)]
                have := x3.2.2.2.2 c s0 c0 (by omega) s00 (by omega)
                rw [etg, s0g] at this
                exact this
          · omega
        · intro c hc ihc I3 k1 k2
          have r1 : frS I I3 m := fun b i q0 q1 => (k1 b i (by omega)).trans (j1 b i q0 q1)
          have h3 := h.fs r1
          have e17 := (h3.2.2.2.2.2.2 (by omega)).2.1
          have eg : I3 (m + 22) (7 * c + g) = goA V g e c := by rw [k1 _ _ (by omega)]; exact j6 c (by omega) (by omega)
          have b1 : -9 ≤ goA V g e c ∧ goA V g e c < V.T.nd := evE_go t1 _ _
          have c1 := truly_in t1 hgg b1
          refine wk_iload (i := 4) (q := 76) dX7_spite_74 rfl rfl ?_
          refine wk_aload_n (i := 0) (q := 77) dX7_spite_76 rfl rfl rfl ?_
          refine wk_getI (fi := 17) (q := 80) dX7_spite_77 rfl fl_X7_164 rfl rfl hM.ob ?_
          refine wk_icmp_ge (t := 113) (q := 83) dX7_spite_80 rfl rfl (by omega) (by omega) (fun hc80 => ?_) (fun hc80 => ?_)
          · omega
          · refine wk_aload_n (i := 0) (q := 84) dX7_spite_83 rfl rfl rfl ?_
            refine wk_getR (fi := 49) (q := 87) dX7_spite_84 rfl fl_X7_109 rfl rfl hM.ob hM.r49 ?_
            refine wk_iload (i := 4) (q := 89) dX7_spite_87 rfl rfl ?_
            refine wk_aload_n (i := 0) (q := 90) dX7_spite_89 rfl rfl rfl ?_
            refine wk_iload_n (i := 1) (q := 91) dX7_spite_90 rfl rfl rfl ?_
            refine wk_aload_n (i := 0) (q := 92) dX7_spite_91 rfl rfl rfl ?_
            refine wk_getR (fi := 34) (q := 95) dX7_spite_92 rfl fl_X7_73 rfl rfl hM.ob hM.r34 ?_
            refine wk_bipush (q := 97) dX7_spite_95 rfl (by decide +kernel) ?_
            refine wk_iload (i := 4) (q := 99) dX7_spite_97 rfl rfl ?_
            refine wk_imul (q := 100) dX7_spite_99 rfl ?_
            refine wk_iload_n (i := 1) (q := 101) dX7_spite_100 rfl rfl rfl ?_
            refine wk_iadd (q := 102) dX7_spite_101 rfl ?_
            refine wk_iald (q := 103) dX7_spite_102 rfl hM.s34 (by omega) ?_
            rw [eg]
            refine wk_cP2 (q := 106) dX7_spite_103 rfl vl_X7_203 ⟨_, _, rfl⟩ hM.ob (ct_X7_truly hM t1 h3.2.2.2.2.2.1 hgg b1) (qRo_m ok_X7_truly (by decide) (Nat.le_refl _) (Nat.le_refl _)) (Nat.le_of_ble_eq_true rfl) (fun v103 hv103 => ?_)
            subst hv103
            refine wk_iast (q := 107) dX7_spite_106 rfl hM.s49 (by omega) ?_
            refine wk_iinc (lo' := [(0, _), (1, _), (2, _), (3, _), (4, _)]) (q := 110) dX7_spite_107 rfl rfl (by decide) rfl ?_
            refine wk_goto (t := 74) dX7_spite_110 rfl ?_
            refine ihc _ (fun b i q => by rw [up_na _ _ _ _ q]; exact k1 b i q) (fun c' d0 d1 => ?_)
            by_cases hq : c' = c
            · rw [hq, up_eq]
            · rw [up_ni _ _ hq]
              exact k2 c' d0 (by omega)
      refine wk_iload_n (i := 3) (q := 45) dX7_spite_44 rfl rfl rfl ?_
      refine wk_sipush (q := 48) dX7_spite_45 rfl (by decide +kernel) ?_
      refine wk_icmp_ge (t := 233) (q := 51) dX7_spite_48 rfl rfl (by omega) (by omega) (fun hc48 => ?_) (fun hc48 => ?_)
      · omega
      · refine wk_aload_n (i := 0) (q := 52) dX7_spite_51 rfl rfl rfl ?_
        refine wk_aload_n (i := 0) (q := 53) dX7_spite_52 rfl rfl rfl ?_
        refine wk_getR (fi := 47) (q := 56) dX7_spite_53 rfl fl_X7_103 rfl rfl hM.ob hM.r47 ?_
        refine wk_cV1 (q := 59) dX7_spite_56 rfl vl_X7_304 ⟨_, _, rfl⟩ hM.ob (ct_X7_swapIn hM hM.s47 (by omega) e5' (by omega) (fun i i0 i1 => by rw [f4 i i0 i1]; have := lA i i0 i1; omega)) (qRo_m ok_X7_swapIn (by decide) (Nat.le_refl _) (Nat.le_refl _)) (Nat.le_of_ble_eq_true rfl) (fun I56 L56 R56 hv56 => ?_)
        obtain ⟨rfl, rfl, y1, y2⟩ := hv56
        refine wk_aload_n (i := 0) (q := 60) dX7_spite_59 rfl rfl rfl ?_
        refine wk_cV0 (q := 63) dX7_spite_60 rfl vl_X7_227 ⟨_, _, rfl⟩ hM.ob (ct_nightC (la := laA V e) hM t1 t2.1 (h1.2.2.2.2.2.1.cg (fun b i q => y1 b i (by omega))) (f2.cg (fun b i q => y1 b i (by omega))) (fun g' g0 g1 => by rw [y2 g' g0 g1]; exact f4 g' g0 g1) lA.ok (by rw [y1 _ _ (by omega), mS_now t2]; exact f3)) (qRo_m ok_X7_goNight (by decide) (Nat.le_refl _) (Nat.le_refl _)) (Nat.le_of_ble_eq_true rfl) (fun I60 L60 R60 hv60 => ?_)
        obtain ⟨rfl, rfl, x1, x2, x3⟩ := hv60
        have r4 : frS I I60 m := f1.tr (fun b i q0 q1 => by rw [x1 b i q0 (by omega)]; exact y1 b i (by omega))
        have e54 := (h.fs r4).2.2.2.2.2.1.1
        have x4 : ∀ g', 0 ≤ g' → g' < V.T.ng → I60 (m + 20) g' = laA V (e + 1) g' := fun g' g0 g1 => (x3.2.2.1.2 g' g0 g1).1
        refine wk_aload_n (i := 0) (q := 64) dX7_spite_63 rfl rfl rfl ?_
        refine wk_aload_n (i := 0) (q := 65) dX7_spite_64 rfl rfl rfl ?_
        refine wk_getR (fi := 47) (q := 68) dX7_spite_65 rfl fl_X7_103 rfl rfl hM.ob hM.r47 ?_
        refine wk_cV1 (q := 71) dX7_spite_68 rfl vl_X7_300 ⟨_, _, rfl⟩ hM.ob (ct_X7_swapOut hM hM.s47 (by omega) e54 (by omega) (fun i i0 i1 => by rw [x4 i i0 i1]; have := lA1 i i0 i1; omega)) (qRo_m ok_X7_swapOut (by decide) (Nat.le_refl _) (Nat.le_refl _)) (Nat.le_of_ble_eq_true rfl) (fun I68 L68 R68 hv68 => ?_)
        obtain ⟨rfl, rfl, w1, w2⟩ := hv68
        refine wk_iconst (q := 72) dX7_spite_71 rfl ?_
        refine wk_istore (i := 4) (lo' := [(0, _), (1, _), (2, _), (3, _), (4, _)]) (q := 74) dX7_spite_72 rfl (by decide) rfl ?_
        refine loopA _ (r4.tr (fun b i q0 q1 => w1 b i (by omega))) (x2.cg (fun b i q => w1 b i (by omega))) (by rw [w1 _ _ (by omega)]; exact x3.2.1) (fun g' g0 g1 => by rw [w2 g' g0 g1]; exact x4 g' g0 g1) (fun g' g0 g1 => ?_) (fun c c0 c1 => ?_) 0 (Nat.zero_le _) _ (fun _ _ _ => rfl) (fun c' d0 d1 => by omega)
        · rw [w1 _ _ (by omega), x1 _ _ (by omega) (by omega), y1 _ _ (by omega)]
          exact f5 g' g0 g1
        · rw [w1 _ _ (by omega)]
          have := x3.2.2.2.2 c s0 c0 (by omega) s00 (by omega)
          rw [s0g] at this
          exact this
  refine Ct.of (lo := [(0, _), (1, _), (2, _)]) ok_X7_spite (Nat.le_of_ble_eq_true rfl) rfl ?_
  refine wk_aload_n (i := 0) (q := 1) dX7_spite_0 rfl rfl rfl ?_
  refine wk_iload_n (i := 1) (q := 2) dX7_spite_1 rfl rfl rfl ?_
  refine wk_cP1 (q := 5) dX7_spite_2 rfl vl_X7_184 ⟨_, _, rfl⟩ hM.ob (ct_X7_isGuest hM hg (by omega)) (qRo_m ok_X7_isGuest (by decide) (Nat.le_refl _) (Nat.le_refl _)) (Nat.le_of_ble_eq_true rfl) (fun v2 hv2 => ?_)
  rcases hv2 with ⟨rfl, hv2⟩ | ⟨rfl, hv2⟩
  · rw [e5] at hv2
    refine wk_if_ne (t := 10) (q := 8) dX7_spite_5 rfl rfl (by omega) (fun _ => ?_) (fun hq => absurd hq (by decide))
    refine wk_iload_n (i := 2) (q := 11) dX7_spite_10 rfl rfl rfl ?_
    refine wk_iconst (q := 12) dX7_spite_11 rfl ?_
    refine wk_iconst (q := 13) dX7_spite_12 rfl ?_
    refine wk_sP3 (q := 16) dX7_spite_13 rfl sl_X7_121 (ct_X7_within hw (by omega) (by omega)) (qRo_m ok_X7_within (by decide) (Nat.le_refl _) (Nat.le_refl _)) (Nat.le_of_ble_eq_true rfl) (fun v13 hv13 => ?_)
    rcases hv13 with ⟨rfl, hv13⟩ | ⟨rfl, hv13⟩
    · refine wk_if_ne (t := 22) (q := 19) dX7_spite_16 rfl rfl (by omega) (fun _ => ?_) (fun hq => absurd hq (by decide))
      refine wk_aload_n (i := 0) (q := 23) dX7_spite_22 rfl rfl rfl ?_
      refine wk_cV0 (q := 26) dX7_spite_23 rfl vl_X7_224 ⟨_, _, rfl⟩ hM.ob (ct_lay hM h (by omega)) (qRo_m ok_X7_layNow (by decide) (Nat.le_refl _) (Nat.le_refl _)) (Nat.le_of_ble_eq_true rfl) (fun I23 L23 R23 hv23 => ?_)
      obtain ⟨rfl, rfl, h1, f1, f2, f3, f4⟩ := hv23
      have t3 := (h.1.tab (by omega)).2.2
      have nd6 := (h.1.tab (by omega)).1.2.2.2.1
      have e51 := h1.2.2.2.2.2.1.1
      refine wk_aload_n (i := 0) (q := 27) dX7_spite_26 rfl rfl rfl ?_
      refine wk_aload_n (i := 0) (q := 28) dX7_spite_27 rfl rfl rfl ?_
      refine wk_getR (fi := 48) (q := 31) dX7_spite_28 rfl fl_X7_106 rfl rfl hM.ob hM.r48 ?_
      refine wk_cV1 (q := 34) dX7_spite_31 rfl vl_X7_300 ⟨_, _, rfl⟩ hM.ob (ct_X7_swapOut hM hM.s48 (by omega) e51 (by omega) (fun i i0 i1 => by rw [f3 i i0 i1]; have := t3 i i0 i1; omega)) (qRo_m ok_X7_swapOut (by decide) (Nat.le_refl _) (Nat.le_refl _)) (Nat.le_of_ble_eq_true rfl) (fun I31 L31 R31 hv31 => ?_)
      obtain ⟨rfl, rfl, y1, y2⟩ := hv31
      refine wk_aload_n (i := 0) (q := 35) dX7_spite_34 rfl rfl rfl ?_
      refine wk_aload_n (i := 0) (q := 36) dX7_spite_35 rfl rfl rfl ?_
      refine wk_getR (fi := 47) (q := 39) dX7_spite_36 rfl fl_X7_103 rfl rfl hM.ob hM.r47 ?_
      refine wk_cV1 (q := 42) dX7_spite_39 rfl vl_X7_300 ⟨_, _, rfl⟩ hM.ob (ct_X7_swapOut (ng := V.T.ng) hM hM.s47 (by omega) (by rw [y1 _ _ (by omega)]; exact e51) (by omega) (fun i i0 i1 => by rw [y1 _ _ (by omega), f3 i i0 i1]; have := t3 i i0 i1; omega)) (qRo_m ok_X7_swapOut (by decide) (Nat.le_refl _) (Nat.le_refl _)) (Nat.le_of_ble_eq_true rfl) (fun I39 L39 R39 hv39 => ?_)
      obtain ⟨rfl, rfl, z1, z2⟩ := hv39
      refine wk_iconst (q := 43) dX7_spite_42 rfl ?_
      refine wk_istore_n (i := 3) (lo' := [(0, _), (1, _), (2, _), (3, _)]) (q := 44) dX7_spite_43 rfl rfl (by decide) rfl ?_
      refine loop hv2 (by omega) 0 (Nat.zero_le _) _ (fun b i q0 q1 => by rw [z1 b i (by omega), y1 b i (by omega)]; exact f1 b i q0 (by omega)) (f2.cg (fun b i q => by rw [z1 b i (by omega), y1 b i (by omega)])) (by rw [z1 _ _ (by omega), y1 _ _ (by omega)]; exact f4) (fun g' g0 g1 => ?_) (fun g' g0 g1 => ?_) rfl (fun _ => rfl)
      · rw [z2 g' g0 g1, y1 _ _ (by omega)]
        exact f3 g' g0 g1
      · rw [z1 _ _ (by omega), y2 g' g0 g1]
        exact f3 g' g0 g1
    · refine wk_if_ne (t := 22) (q := 19) dX7_spite_16 rfl rfl (by omega) (fun hq => absurd hq (by decide)) (fun _ => ?_)
      refine wk_bipush (q := 21) dX7_spite_19 rfl (by decide +kernel) ?_
      refine wk_iret dX7_spite_21 rfl ⟨Nat.le_refl _, Nat.le_refl _⟩ rfl ?_
      refine mp_same h rfl ?_
      unfold r_spite
      first
        | rw [if_pos hv2]
        | rw [if_neg (fun q => q hv2), if_pos (by omega)]
  · rw [e5] at hv2
    refine wk_if_ne (t := 10) (q := 8) dX7_spite_5 rfl rfl (by omega) (fun hq => absurd hq (by decide)) (fun _ => ?_)
    refine wk_iconst (q := 9) dX7_spite_8 rfl ?_
    refine wk_iret dX7_spite_9 rfl ⟨Nat.le_refl _, Nat.le_refl _⟩ rfl ?_
    refine mp_same h rfl ?_
    unfold r_spite
    first
      | rw [if_pos hv2]
      | rw [if_neg (fun q => q hv2), if_pos (by omega)]
end SPITE4
