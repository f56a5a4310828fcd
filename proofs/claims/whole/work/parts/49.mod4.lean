/-! the reference's calls (4): copy, tell, greet, as -/
section MOD4
variable {l : Launch} {E : qEv} {n : Nat} {sh : qSh} {I L : qI} {R : qR}
theorem om_copy {m : Nat} {V : VV} {k i a j z : Int} (hM : qMod E.2.2 n sh R m) (h : MI I m V) (hk : in32 k) (hi : in32 i) (ha : in32 a) (hj : in32 j) (hz : in32 z) :
    Ct l E 2 mX7_copy [.ref m, .int (zI k), .int (zI i), .int (zI a), .int (zI j), .int (zI z)] (n, sh, I, L, R) 0 0 (qZ n sh (mpZ m I L R (r_copy V k i a j z) (s_copy V k i a j z))) := by
  have loop : ∀ w : Int, (w = 1 ∧ i < j ∨ w = 0 ∧ j ≤ i) → (0 ≤ k ∧ k < 4) → (0 ≤ a ∧ a < 4) → V.th k = 1 → V.th a = 1 → V.so k = V.so a → (0 ≤ i ∧ i ≤ V.sl k ∧ 0 ≤ z ∧ z ≤ V.sl k - i ∧ 0 ≤ j ∧ j ≤ V.sl a ∧ z ≤ V.sl a - j) → ∀ t : Nat, t ≤ z.toNat → ∀ I1 : qI, ((∀ b y, b ≠ m + 3 → I1 b y = up I m 0 0 b y) ∧ ∀ p : Int, 0 ≤ p → p < 400 → I1 (m + 3) p = if 100 * a + j + (if w = 1 then z - t else 0) ≤ p ∧ p < 100 * a + j + (if w = 1 then z else t) then V.ce k (i + (p - 100 * a - j)) else I (m + 3) p) → Wk l E (qmo E 2 n 0 0 (qZ n sh (mpZ m I L R (r_copy V k i a j z) (s_copy V k i a j z)))) mX7_copy 0 0 166
      [(0, .ref m), (1, .int (zI k)), (2, .int (zI i)), (3, .int (zI a)), (4, .int (zI j)), (5, .int (zI z)), (6, .int (zI 1)), (7, .int (zI w)), (8, .int (zI (t : Int)))] [] (n, sh, I1, L, R) := by
    intro w hw hk4 ha4 htk hta hso hr
    obtain ⟨w1, w2, w3, w4, w5⟩ := h.1.1 k hk4.1 hk4.2
    obtain ⟨y1, y2, y3, y4, y5⟩ := h.1.1 a ha4.1 ha4.2
    refine up_ind z.toNat ?_ ?_
    · rintro I1 ⟨f1, f2⟩
      refine wk_iload (i := 8) (q := 168) dX7_copy_166 rfl rfl ?_
      refine wk_iload (i := 5) (q := 170) dX7_copy_168 rfl rfl ?_
      refine wk_icmp_ge (t := 227) (q := 173) dX7_copy_170 rfl rfl (by omega) (by omega) (fun hc170 => ?_) (fun hc170 => ?_)
      · refine wk_iload (i := 5) (q := 229) dX7_copy_227 rfl rfl ?_
        refine wk_iret dX7_copy_229 rfl ⟨Nat.le_refl _, Nat.le_refl _⟩ rfl ?_
        refine ⟨_, _, _, _, rfl, rfl, ?_, ?_, fun b y q => ?_, rfl, rfl⟩
        · unfold r_copy
          rw [if_neg (fun q => q ⟨hk4, ha4⟩), if_neg (by omega), if_neg (by omega), if_pos (by omega)]
        · have hs : s_copy V k i a j z = (V.setFa 0).setSh V.th V.so V.sl (fun c y => if c = a ∧ j ≤ y ∧ y < j + z then V.ce k (i + (y - j)) else V.ce c y) := by
            unfold s_copy
            rw [if_neg (fun q => q ⟨hk4, ha4⟩), if_neg (by omega), if_neg (by omega), if_pos (by omega)]
          rw [hs]
          refine h.shW ⟨rfl, rfl, rfl, rfl, rfl⟩ (fun b y q1 q2 => by rw [f1 _ _ (by omega), up_off (by omega)]) (by rw [f1 _ _ (by omega), up_eq]; rfl) (fun c c0 c1 => ?_) (fun c c0 c1 => ?_)
          · obtain ⟨g1, g2, g3⟩ := h.sh c c0 c1
            show _ = (if V.th c = 1 then V.so c else -9) ∧ _ = V.sl c ∧ ∀ y, 0 ≤ y → y < 100 → _ = if c = a ∧ j ≤ y ∧ y < j + z then V.ce k (i + (y - j)) else V.ce c y
            refine ⟨by rw [f1 _ _ (by omega), up_na _ _ _ _ (by omega)]; exact g1, by rw [f1 _ _ (by omega), up_na _ _ _ _ (by omega)]; exact g2, fun y y0 y1 => ?_⟩
            rw [f2 _ (by omega) (by omega)]
            by_cases hq : c = a ∧ j ≤ y ∧ y < j + z
            · have e : i + (100 * c + y - 100 * a - j) = i + (y - j) := by omega
              rw [if_pos (by split <;> omega), if_pos hq, e]
            · rw [if_neg (by split <;> omega), if_neg hq]
              exact g3 y y0 y1
          · obtain ⟨g1, g2, g3, g4, g5⟩ := h.1.1 c c0 c1
            refine ⟨g1, g2, g3, g4, fun y y0 y1' => ?_⟩
            show in32 (if c = a ∧ j ≤ y ∧ y < j + z then V.ce k (i + (y - j)) else V.ce c y)
            split
            · exact w5 _ (by omega) (by omega)
            · exact g5 y y0 y1'
        · rw [f1 _ _ (by omega), up_na _ _ _ _ (by omega)]
      · omega
    · rintro t ht ih I1 ⟨f1, f2⟩
      have rd : ∀ y : Int, 0 ≤ y → y < z → (w = 1 → y = z - 1 - t) → (w = 0 → y = t) → I1 (m + 3) (100 * k + i + y) = V.ce k (i + y) ∧ in32 (V.ce k (i + y)) := by
        intro y y0 y1 q1 q2
        refine ⟨?_, w5 _ (by omega) (by omega)⟩
        rw [f2 _ (by omega) (by omega), if_neg (by split <;> omega), show 100 * k + i + y = 100 * k + (i + y) by omega]
        exact (h.sh k hk4.1 hk4.2).2.2 _ (by omega) (by omega)
      have nx : ∀ y : Int, 0 ≤ y → y < z → (w = 1 → y = z - 1 - t) → (w = 0 → y = t) → (∀ b x, b ≠ m + 3 → up I1 (m + 3) (100 * a + j + y) (V.ce k (i + y)) b x = up I m 0 0 b x) ∧ ∀ p : Int, 0 ≤ p → p < 400 → up I1 (m + 3) (100 * a + j + y) (V.ce k (i + y)) (m + 3) p = if 100 * a + j + (if w = 1 then z - ((t + 1 : Nat) : Int) else 0) ≤ p ∧ p < 100 * a + j + (if w = 1 then z else ((t + 1 : Nat) : Int)) then V.ce k (i + (p - 100 * a - j)) else I (m + 3) p := by
        intro y y0 y1 q1 q2
        refine ⟨fun b x q => by rw [up_na _ _ _ _ q]; exact f1 b x q, fun p p0 p1 => ?_⟩
        by_cases hq : p = 100 * a + j + y
        · have e : i + (100 * a + j + y - 100 * a - j) = i + y := by omega
          rw [hq, up_eq, if_pos (by split <;> omega), e]
        · rw [up_ni _ _ hq, f2 p p0 p1]
          by_cases hc : 100 * a + j + (if w = 1 then z - (t : Int) else 0) ≤ p ∧ p < 100 * a + j + (if w = 1 then z else (t : Int))
          · rw [if_pos hc, if_pos (by revert hc; split <;> omega)]
          · rw [if_neg hc, if_neg (by revert hc; split <;> omega)]
      refine wk_iload (i := 8) (q := 168) dX7_copy_166 rfl rfl ?_
      refine wk_iload (i := 5) (q := 170) dX7_copy_168 rfl rfl ?_
      refine wk_icmp_ge (t := 227) (q := 173) dX7_copy_170 rfl rfl (by omega) (by omega) (fun hc170 => ?_) (fun hc170 => ?_)
      · omega
      · refine wk_iload (i := 7) (q := 175) dX7_copy_173 rfl rfl ?_
        refine wk_if_eq (t := 188) (q := 178) dX7_copy_175 rfl rfl (by omega) (fun hc175 => ?_) (fun hc175 => ?_)
        · refine wk_iload (i := 8) (q := 190) dX7_copy_188 rfl rfl ?_
          refine wk_istore (i := 9) (lo' := [(0, _), (1, _), (2, _), (3, _), (4, _), (5, _), (6, _), (7, _), (8, _), (9, _)]) (q := 192) dX7_copy_190 rfl (by decide) rfl ?_
          refine wk_aload_n (i := 0) (q := 193) dX7_copy_192 rfl rfl rfl ?_
          refine wk_getR (fi := 4) (q := 196) dX7_copy_193 rfl fl_X7_16 rfl rfl hM.ob hM.r4 ?_
          refine wk_bipush (q := 198) dX7_copy_196 rfl (by decide +kernel) ?_
          refine wk_iload_n (i := 3) (q := 199) dX7_copy_198 rfl rfl rfl ?_
          refine wk_imul (q := 200) dX7_copy_199 rfl ?_
          refine wk_iload (i := 4) (q := 202) dX7_copy_200 rfl rfl ?_
          refine wk_iadd (q := 203) dX7_copy_202 rfl ?_
          refine wk_iload (i := 9) (q := 205) dX7_copy_203 rfl rfl ?_
          refine wk_iadd (q := 206) dX7_copy_205 rfl ?_
          refine wk_aload_n (i := 0) (q := 207) dX7_copy_206 rfl rfl rfl ?_
          refine wk_getR (fi := 4) (q := 210) dX7_copy_207 rfl fl_X7_16 rfl rfl hM.ob hM.r4 ?_
          refine wk_bipush (q := 212) dX7_copy_210 rfl (by decide +kernel) ?_
          refine wk_iload_n (i := 1) (q := 213) dX7_copy_212 rfl rfl rfl ?_
          refine wk_imul (q := 214) dX7_copy_213 rfl ?_
          refine wk_iload_n (i := 2) (q := 215) dX7_copy_214 rfl rfl rfl ?_
          refine wk_iadd (q := 216) dX7_copy_215 rfl ?_
          refine wk_iload (i := 9) (q := 218) dX7_copy_216 rfl rfl ?_
          refine wk_iadd (q := 219) dX7_copy_218 rfl ?_
          first
            | have e := rd (z - 1 - t) (by omega) (by omega) (by omega) (by omega)
            | have e := rd t (by omega) (by omega) (by omega) (by omega)
          obtain ⟨e1, e2⟩ := e
          refine wk_iald (q := 220) dX7_copy_219 rfl hM.s4 (by omega) ?_
          rw [e1]
          refine wk_iast (q := 221) dX7_copy_220 rfl hM.s4 (by omega) ?_
          refine wk_iinc (lo' := [(0, _), (1, _), (2, _), (3, _), (4, _), (5, _), (6, _), (7, _), (8, _), (9, _)]) (q := 224) dX7_copy_221 rfl rfl (by decide) rfl ?_
          refine wk_goto (t := 166) dX7_copy_224 rfl ?_
          refine wk_del (i := 9) (lo' := [(0, _), (1, _), (2, _), (3, _), (4, _), (5, _), (6, _), (7, _), (8, _)]) rfl ?_
          first
            | exact ih _ (nx (z - 1 - t) (by omega) (by omega) (by omega) (by omega))
            | exact ih _ (nx t (by omega) (by omega) (by omega) (by omega))
        · refine wk_iload (i := 5) (q := 180) dX7_copy_178 rfl rfl ?_
          refine wk_iconst (q := 181) dX7_copy_180 rfl ?_
          refine wk_isub (q := 182) dX7_copy_181 rfl ?_
          refine wk_iload (i := 8) (q := 184) dX7_copy_182 rfl rfl ?_
          refine wk_isub (q := 185) dX7_copy_184 rfl ?_
          refine wk_goto (t := 190) dX7_copy_185 rfl ?_
          refine wk_istore (i := 9) (lo' := [(0, _), (1, _), (2, _), (3, _), (4, _), (5, _), (6, _), (7, _), (8, _), (9, _)]) (q := 192) dX7_copy_190 rfl (by decide) rfl ?_
          refine wk_aload_n (i := 0) (q := 193) dX7_copy_192 rfl rfl rfl ?_
          refine wk_getR (fi := 4) (q := 196) dX7_copy_193 rfl fl_X7_16 rfl rfl hM.ob hM.r4 ?_
          refine wk_bipush (q := 198) dX7_copy_196 rfl (by decide +kernel) ?_
          refine wk_iload_n (i := 3) (q := 199) dX7_copy_198 rfl rfl rfl ?_
          refine wk_imul (q := 200) dX7_copy_199 rfl ?_
          refine wk_iload (i := 4) (q := 202) dX7_copy_200 rfl rfl ?_
          refine wk_iadd (q := 203) dX7_copy_202 rfl ?_
          refine wk_iload (i := 9) (q := 205) dX7_copy_203 rfl rfl ?_
          refine wk_iadd (q := 206) dX7_copy_205 rfl ?_
          refine wk_aload_n (i := 0) (q := 207) dX7_copy_206 rfl rfl rfl ?_
          refine wk_getR (fi := 4) (q := 210) dX7_copy_207 rfl fl_X7_16 rfl rfl hM.ob hM.r4 ?_
          refine wk_bipush (q := 212) dX7_copy_210 rfl (by decide +kernel) ?_
          refine wk_iload_n (i := 1) (q := 213) dX7_copy_212 rfl rfl rfl ?_
          refine wk_imul (q := 214) dX7_copy_213 rfl ?_
          refine wk_iload_n (i := 2) (q := 215) dX7_copy_214 rfl rfl rfl ?_
          refine wk_iadd (q := 216) dX7_copy_215 rfl ?_
          refine wk_iload (i := 9) (q := 218) dX7_copy_216 rfl rfl ?_
          refine wk_iadd (q := 219) dX7_copy_218 rfl ?_
          first
            | have e := rd (z - 1 - t) (by omega) (by omega) (by omega) (by omega)
            | have e := rd t (by omega) (by omega) (by omega) (by omega)
          obtain ⟨e1, e2⟩ := e
          refine wk_iald (q := 220) dX7_copy_219 rfl hM.s4 (by omega) ?_
          rw [e1]
          refine wk_iast (q := 221) dX7_copy_220 rfl hM.s4 (by omega) ?_
          refine wk_iinc (lo' := [(0, _), (1, _), (2, _), (3, _), (4, _), (5, _), (6, _), (7, _), (8, _), (9, _)]) (q := 224) dX7_copy_221 rfl rfl (by decide) rfl ?_
          refine wk_goto (t := 166) dX7_copy_224 rfl ?_
          refine wk_del (i := 9) (lo' := [(0, _), (1, _), (2, _), (3, _), (4, _), (5, _), (6, _), (7, _), (8, _)]) rfl ?_
          first
            | exact ih _ (nx (z - 1 - t) (by omega) (by omega) (by omega) (by omega))
            | exact ih _ (nx t (by omega) (by omega) (by omega) (by omega))
  refine Ct.of (lo := [(0, _), (1, _), (2, _), (3, _), (4, _), (5, _)]) ok_X7_copy (Nat.le_of_ble_eq_true rfl) rfl ?_
  refine wk_aload_n (i := 0) (q := 1) dX7_copy_0 rfl rfl rfl ?_
  refine wk_iconst (q := 2) dX7_copy_1 rfl ?_
  refine wk_putI (fi := 0) (q := 5) dX7_copy_2 rfl fl_X7_115 fw_7_0 rfl rfl hM.ob ?_
  refine wk_iload_n (i := 1) (q := 6) dX7_copy_5 rfl rfl rfl ?_
  refine wk_sP1 (q := 9) dX7_copy_6 rfl sl_X7_134 (ct_X7_isSheet hk) (qRo_m ok_X7_isSheet (by decide) (Nat.le_refl _) (Nat.le_refl _)) (Nat.le_of_ble_eq_true rfl) (fun v6 hv6 => ?_)
  rcases hv6 with ⟨rfl, hv6⟩ | ⟨rfl, hv6⟩
  · refine wk_if_eq (t := 19) (q := 12) dX7_copy_9 rfl rfl (by omega) (fun hq => absurd hq (by decide)) (fun _ => ?_)
    refine wk_iload_n (i := 3) (q := 13) dX7_copy_12 rfl rfl rfl ?_
    refine wk_sP1 (q := 16) dX7_copy_13 rfl sl_X7_134 (ct_X7_isSheet ha) (qRo_m ok_X7_isSheet (by decide) (Nat.le_refl _) (Nat.le_refl _)) (Nat.le_of_ble_eq_true rfl) (fun v13 hv13 => ?_)
    rcases hv13 with ⟨rfl, hv13⟩ | ⟨rfl, hv13⟩
    · refine wk_if_ne (t := 21) (q := 19) dX7_copy_16 rfl rfl (by omega) (fun _ => ?_) (fun hq => absurd hq (by decide))
      refine wk_aload_n (i := 0) (q := 22) dX7_copy_21 rfl rfl rfl ?_
      refine wk_getR (fi := 2) (q := 25) dX7_copy_22 rfl fl_X7_9 rfl rfl hM.ob hM.r2 ?_
      refine wk_iload_n (i := 1) (q := 26) dX7_copy_25 rfl rfl rfl ?_
      refine wk_iald (q := 27) dX7_copy_26 rfl hM.s2 (by omega) ?_
      refine wk_bipush (q := 29) dX7_copy_27 rfl (by decide +kernel) ?_
      have s1 := h.sh.rg h.1.1 hv6.1 hv6.2
      have s2 := h.sh.rg h.1.1 hv13.1 hv13.2
      have l1 := (h.sh k hv6.1 hv6.2).2.1
      have l2 := (h.sh a hv13.1 hv13.2).2.1
      have b1 := h.1.1 k hv6.1 hv6.2
      have b2 := h.1.1 a hv13.1 hv13.2
      rw [up_na _ _ _ _ (by omega)]
      refine wk_icmp_eq (t := 43) (q := 32) dX7_copy_29 rfl rfl (by omega) (by omega) (fun hc29 => ?_) (fun hc29 => ?_)
      · refine wk_aload_n (i := 0) (q := 44) dX7_copy_43 rfl rfl rfl ?_
        refine wk_iconst (q := 45) dX7_copy_44 rfl ?_
        refine wk_cZ1 (q := 48) dX7_copy_45 rfl vl_X7_145 ⟨_, _, rfl⟩ hM.ob (ct_X7_fails hM) (qRo_m ok_X7_fails (by decide) (Nat.le_refl _) (Nat.le_refl _)) (Nat.le_of_ble_eq_true rfl) (fun v45 I45 L45 R45 hv45 => ?_)
        obtain ⟨rfl, rfl, rfl, rfl⟩ := hv45
        rw [up2_0]
        refine wk_iret dX7_copy_48 rfl ⟨Nat.le_refl _, Nat.le_refl _⟩ rfl ?_
        first
          | (exfalso; omega)
          | (refine mp_fault h rfl ?_ ?_
             · unfold s_copy
               first
                 | rw [if_pos (fun q => hv6 q.1)]
                 | rw [if_pos (fun q => hv13 q.2)]
                 | rw [if_neg (fun q => q ⟨hv6, hv13⟩), if_pos (by omega)]
                 | rw [if_neg (fun q => q ⟨hv6, hv13⟩), if_neg (by omega), if_pos (by omega)]
                 | rw [if_neg (fun q => q ⟨hv6, hv13⟩), if_neg (by omega), if_neg (by omega), if_neg (by omega)]
             · unfold r_copy
               first
                 | rw [if_pos (fun q => hv6 q.1)]
                 | rw [if_pos (fun q => hv13 q.2)]
                 | (rw [if_neg (fun q => q ⟨hv6, hv13⟩), if_pos (by omega)]; omega)
                 | (rw [if_neg (fun q => q ⟨hv6, hv13⟩), if_neg (by omega), if_pos (by omega)]; omega)
                 | (rw [if_neg (fun q => q ⟨hv6, hv13⟩), if_neg (by omega), if_neg (by omega), if_neg (by omega)]; omega))
      · refine wk_aload_n (i := 0) (q := 33) dX7_copy_32 rfl rfl rfl ?_
        refine wk_getR (fi := 2) (q := 36) dX7_copy_33 rfl fl_X7_9 rfl rfl hM.ob hM.r2 ?_
        refine wk_iload_n (i := 3) (q := 37) dX7_copy_36 rfl rfl rfl ?_
        refine wk_iald (q := 38) dX7_copy_37 rfl hM.s2 (by omega) ?_
        refine wk_bipush (q := 40) dX7_copy_38 rfl (by decide +kernel) ?_
        rw [up_na _ _ _ _ (by omega)]
        refine wk_icmp_ne (t := 49) (q := 43) dX7_copy_40 rfl rfl (by omega) (by omega) (fun hc40 => ?_) (fun hc40 => ?_)
        · refine wk_aload_n (i := 0) (q := 50) dX7_copy_49 rfl rfl rfl ?_
          refine wk_getR (fi := 2) (q := 53) dX7_copy_50 rfl fl_X7_9 rfl rfl hM.ob hM.r2 ?_
          refine wk_iload_n (i := 1) (q := 54) dX7_copy_53 rfl rfl rfl ?_
          refine wk_iald (q := 55) dX7_copy_54 rfl hM.s2 (by omega) ?_
          refine wk_aload_n (i := 0) (q := 56) dX7_copy_55 rfl rfl rfl ?_
          refine wk_getR (fi := 2) (q := 59) dX7_copy_56 rfl fl_X7_9 rfl rfl hM.ob hM.r2 ?_
          refine wk_iload_n (i := 3) (q := 60) dX7_copy_59 rfl rfl rfl ?_
          refine wk_iald (q := 61) dX7_copy_60 rfl hM.s2 (by omega) ?_
          rw [up_na _ _ _ _ (by omega), up_na _ _ _ _ (by omega)]
          refine wk_icmp_eq (t := 70) (q := 64) dX7_copy_61 rfl rfl (by omega) (by omega) (fun hc61 => ?_) (fun hc61 => ?_)
          · refine wk_iload_n (i := 2) (q := 71) dX7_copy_70 rfl rfl rfl ?_
            refine wk_if_lt (t := 109) (q := 74) dX7_copy_71 rfl rfl (by omega) (fun hc71 => ?_) (fun hc71 => ?_)
            · refine wk_iconst (q := 110) dX7_copy_109 rfl ?_
              refine wk_istore (i := 6) (lo' := [(0, _), (1, _), (2, _), (3, _), (4, _), (5, _), (6, _)]) (q := 112) dX7_copy_110 rfl (by decide) rfl ?_
              refine wk_iload (i := 6) (q := 114) dX7_copy_112 rfl rfl ?_
              refine wk_if_eq (t := 144) (q := 117) dX7_copy_114 rfl rfl (by omega) (fun hc114 => ?_) (fun hc114 => ?_)
              · refine wk_aload_n (i := 0) (q := 145) dX7_copy_144 rfl rfl rfl ?_
                refine wk_iconst (q := 146) dX7_copy_145 rfl ?_
                refine wk_cZ1 (q := 149) dX7_copy_146 rfl vl_X7_145 ⟨_, _, rfl⟩ hM.ob (ct_X7_fails hM) (qRo_m ok_X7_fails (by decide) (Nat.le_refl _) (Nat.le_refl _)) (Nat.le_of_ble_eq_true rfl) (fun v146 I146 L146 R146 hv146 => ?_)
                obtain ⟨rfl, rfl, rfl, rfl⟩ := hv146
                rw [up2_0]
                refine wk_iret dX7_copy_149 rfl ⟨Nat.le_refl _, Nat.le_refl _⟩ rfl ?_
                first
                  | (exfalso; omega)
                  | (refine mp_fault h rfl ?_ ?_
                     · unfold s_copy
                       first
                         | rw [if_pos (fun q => hv6 q.1)]
                         | rw [if_pos (fun q => hv13 q.2)]
                         | rw [if_neg (fun q => q ⟨hv6, hv13⟩), if_pos (by omega)]
                         | rw [if_neg (fun q => q ⟨hv6, hv13⟩), if_neg (by omega), if_pos (by omega)]
                         | rw [if_neg (fun q => q ⟨hv6, hv13⟩), if_neg (by omega), if_neg (by omega), if_neg (by omega)]
                     · unfold r_copy
                       first
                         | rw [if_pos (fun q => hv6 q.1)]
                         | rw [if_pos (fun q => hv13 q.2)]
                         | (rw [if_neg (fun q => q ⟨hv6, hv13⟩), if_pos (by omega)]; omega)
                         | (rw [if_neg (fun q => q ⟨hv6, hv13⟩), if_neg (by omega), if_pos (by omega)]; omega)
                         | (rw [if_neg (fun q => q ⟨hv6, hv13⟩), if_neg (by omega), if_neg (by omega), if_neg (by omega)]; omega))
              · refine wk_iload (i := 5) (q := 119) dX7_copy_117 rfl rfl ?_
                refine wk_aload_n (i := 0) (q := 120) dX7_copy_119 rfl rfl rfl ?_
                refine wk_getR (fi := 3) (q := 123) dX7_copy_120 rfl fl_X7_13 rfl rfl hM.ob hM.r3 ?_
                refine wk_iload_n (i := 1) (q := 124) dX7_copy_123 rfl rfl rfl ?_
                refine wk_iald (q := 125) dX7_copy_124 rfl hM.s3 (by omega) ?_
                refine wk_iload_n (i := 2) (q := 126) dX7_copy_125 rfl rfl rfl ?_
                refine wk_isub (q := 127) dX7_copy_126 rfl ?_
                rw [up_na _ _ _ _ (by omega), l1]
                refine wk_icmp_gt (t := 144) (q := 130) dX7_copy_127 rfl rfl (by omega) (by omega) (fun hc127 => ?_) (fun hc127 => ?_)
                · refine wk_aload_n (i := 0) (q := 145) dX7_copy_144 rfl rfl rfl ?_
                  refine wk_iconst (q := 146) dX7_copy_145 rfl ?_
                  refine wk_cZ1 (q := 149) dX7_copy_146 rfl vl_X7_145 ⟨_, _, rfl⟩ hM.ob (ct_X7_fails hM) (qRo_m ok_X7_fails (by decide) (Nat.le_refl _) (Nat.le_refl _)) (Nat.le_of_ble_eq_true rfl) (fun v146 I146 L146 R146 hv146 => ?_)
                  obtain ⟨rfl, rfl, rfl, rfl⟩ := hv146
                  rw [up2_0]
                  refine wk_iret dX7_copy_149 rfl ⟨Nat.le_refl _, Nat.le_refl _⟩ rfl ?_
                  first
                    | (exfalso; omega)
                    | (refine mp_fault h rfl ?_ ?_
                       · unfold s_copy
                         first
                           | rw [if_pos (fun q => hv6 q.1)]
                           | rw [if_pos (fun q => hv13 q.2)]
                           | rw [if_neg (fun q => q ⟨hv6, hv13⟩), if_pos (by omega)]
                           | rw [if_neg (fun q => q ⟨hv6, hv13⟩), if_neg (by omega), if_pos (by omega)]
                           | rw [if_neg (fun q => q ⟨hv6, hv13⟩), if_neg (by omega), if_neg (by omega), if_neg (by omega)]
                       · unfold r_copy
                         first
                           | rw [if_pos (fun q => hv6 q.1)]
                           | rw [if_pos (fun q => hv13 q.2)]
                           | (rw [if_neg (fun q => q ⟨hv6, hv13⟩), if_pos (by omega)]; omega)
                           | (rw [if_neg (fun q => q ⟨hv6, hv13⟩), if_neg (by omega), if_pos (by omega)]; omega)
                           | (rw [if_neg (fun q => q ⟨hv6, hv13⟩), if_neg (by omega), if_neg (by omega), if_neg (by omega)]; omega))
                · refine wk_iload (i := 5) (q := 132) dX7_copy_130 rfl rfl ?_
                  refine wk_aload_n (i := 0) (q := 133) dX7_copy_132 rfl rfl rfl ?_
                  refine wk_getR (fi := 3) (q := 136) dX7_copy_133 rfl fl_X7_13 rfl rfl hM.ob hM.r3 ?_
                  refine wk_iload_n (i := 3) (q := 137) dX7_copy_136 rfl rfl rfl ?_
                  refine wk_iald (q := 138) dX7_copy_137 rfl hM.s3 (by omega) ?_
                  refine wk_iload (i := 4) (q := 140) dX7_copy_138 rfl rfl ?_
                  refine wk_isub (q := 141) dX7_copy_140 rfl ?_
                  rw [up_na _ _ _ _ (by omega), l2]
                  refine wk_icmp_le (t := 150) (q := 144) dX7_copy_141 rfl rfl (by omega) (by omega) (fun hc141 => ?_) (fun hc141 => ?_)
                  · refine wk_iload_n (i := 2) (q := 151) dX7_copy_150 rfl rfl rfl ?_
                    refine wk_iload (i := 4) (q := 153) dX7_copy_151 rfl rfl ?_
                    refine wk_icmp_ge (t := 160) (q := 156) dX7_copy_153 rfl rfl (by omega) (by omega) (fun hc153 => ?_) (fun hc153 => ?_)
                    · refine wk_iconst (q := 161) dX7_copy_160 rfl ?_
                      refine wk_istore (i := 7) (lo' := [(0, _), (1, _), (2, _), (3, _), (4, _), (5, _), (6, _), (7, _)]) (q := 163) dX7_copy_161 rfl (by decide) rfl ?_
                      refine wk_iconst (q := 164) dX7_copy_163 rfl ?_
                      refine wk_istore (i := 8) (lo' := [(0, _), (1, _), (2, _), (3, _), (4, _), (5, _), (6, _), (7, _), (8, _)]) (q := 166) dX7_copy_164 rfl (by decide) rfl ?_
                      first
                        | (exfalso; omega)
                        | (refine loop _ (by omega) hv6 hv13 (by omega) (by omega) (by omega) (by omega) 0 (Nat.zero_le _) _ ⟨fun _ _ _ => rfl, fun p p0 p1 => ?_⟩
                           rw [up_na _ _ _ _ (by omega), if_neg (by split <;> omega)])
                    · refine wk_iconst (q := 157) dX7_copy_156 rfl ?_
                      refine wk_goto (t := 161) dX7_copy_157 rfl ?_
                      refine wk_istore (i := 7) (lo' := [(0, _), (1, _), (2, _), (3, _), (4, _), (5, _), (6, _), (7, _)]) (q := 163) dX7_copy_161 rfl (by decide) rfl ?_
                      refine wk_iconst (q := 164) dX7_copy_163 rfl ?_
                      refine wk_istore (i := 8) (lo' := [(0, _), (1, _), (2, _), (3, _), (4, _), (5, _), (6, _), (7, _), (8, _)]) (q := 166) dX7_copy_164 rfl (by decide) rfl ?_
                      first
                        | (exfalso; omega)
                        | (refine loop _ (by omega) hv6 hv13 (by omega) (by omega) (by omega) (by omega) 0 (Nat.zero_le _) _ ⟨fun _ _ _ => rfl, fun p p0 p1 => ?_⟩
                           rw [up_na _ _ _ _ (by omega), if_neg (by split <;> omega)])
                  · refine wk_aload_n (i := 0) (q := 145) dX7_copy_144 rfl rfl rfl ?_
                    refine wk_iconst (q := 146) dX7_copy_145 rfl ?_
                    refine wk_cZ1 (q := 149) dX7_copy_146 rfl vl_X7_145 ⟨_, _, rfl⟩ hM.ob (ct_X7_fails hM) (qRo_m ok_X7_fails (by decide) (Nat.le_refl _) (Nat.le_refl _)) (Nat.le_of_ble_eq_true rfl) (fun v146 I146 L146 R146 hv146 => ?_)
                    obtain ⟨rfl, rfl, rfl, rfl⟩ := hv146
                    rw [up2_0]
                    refine wk_iret dX7_copy_149 rfl ⟨Nat.le_refl _, Nat.le_refl _⟩ rfl ?_
                    first
                      | (exfalso; omega)
                      | (refine mp_fault h rfl ?_ ?_
                         · unfold s_copy
                           first
                             | rw [if_pos (fun q => hv6 q.1)]
                             | rw [if_pos (fun q => hv13 q.2)]
                             | rw [if_neg (fun q => q ⟨hv6, hv13⟩), if_pos (by omega)]
                             | rw [if_neg (fun q => q ⟨hv6, hv13⟩), if_neg (by omega), if_pos (by omega)]
                             | rw [if_neg (fun q => q ⟨hv6, hv13⟩), if_neg (by omega), if_neg (by omega), if_neg (by omega)]
                         · unfold r_copy
                           first
                             | rw [if_pos (fun q => hv6 q.1)]
                             | rw [if_pos (fun q => hv13 q.2)]
                             | (rw [if_neg (fun q => q ⟨hv6, hv13⟩), if_pos (by omega)]; omega)
                             | (rw [if_neg (fun q => q ⟨hv6, hv13⟩), if_neg (by omega), if_pos (by omega)]; omega)
                             | (rw [if_neg (fun q => q ⟨hv6, hv13⟩), if_neg (by omega), if_neg (by omega), if_neg (by omega)]; omega))
            · refine wk_iload (i := 4) (q := 76) dX7_copy_74 rfl rfl ?_
              refine wk_if_lt (t := 109) (q := 79) dX7_copy_76 rfl rfl (by omega) (fun hc76 => ?_) (fun hc76 => ?_)
              · refine wk_iconst (q := 110) dX7_copy_109 rfl ?_
                refine wk_istore (i := 6) (lo' := [(0, _), (1, _), (2, _), (3, _), (4, _), (5, _), (6, _)]) (q := 112) dX7_copy_110 rfl (by decide) rfl ?_
                refine wk_iload (i := 6) (q := 114) dX7_copy_112 rfl rfl ?_
                refine wk_if_eq (t := 144) (q := 117) dX7_copy_114 rfl rfl (by omega) (fun hc114 => ?_) (fun hc114 => ?_)
                · refine wk_aload_n (i := 0) (q := 145) dX7_copy_144 rfl rfl rfl ?_
                  refine wk_iconst (q := 146) dX7_copy_145 rfl ?_
                  refine wk_cZ1 (q := 149) dX7_copy_146 rfl vl_X7_145 ⟨_, _, rfl⟩ hM.ob (ct_X7_fails hM) (qRo_m ok_X7_fails (by decide) (Nat.le_refl _) (Nat.le_refl _)) (Nat.le_of_ble_eq_true rfl) (fun v146 I146 L146 R146 hv146 => ?_)
                  obtain ⟨rfl, rfl, rfl, rfl⟩ := hv146
                  rw [up2_0]
                  refine wk_iret dX7_copy_149 rfl ⟨Nat.le_refl _, Nat.le_refl _⟩ rfl ?_
                  first
                    | (exfalso; omega)
                    | (refine mp_fault h rfl ?_ ?_
                       · unfold s_copy
                         first
                           | rw [if_pos (fun q => hv6 q.1)]
                           | rw [if_pos (fun q => hv13 q.2)]
                           | rw [if_neg (fun q => q ⟨hv6, hv13⟩), if_pos (by omega)]
                           | rw [if_neg (fun q => q ⟨hv6, hv13⟩), if_neg (by omega), if_pos (by omega)]
                           | rw [if_neg (fun q => q ⟨hv6, hv13⟩), if_neg (by omega), if_neg (by omega), if_neg (by omega)]
                       · unfold r_copy
                         first
                           | rw [if_pos (fun q => hv6 q.1)]
                           | rw [if_pos (fun q => hv13 q.2)]
                           | (rw [if_neg (fun q => q ⟨hv6, hv13⟩), if_pos (by omega)]; omega)
                           | (rw [if_neg (fun q => q ⟨hv6, hv13⟩), if_neg (by omega), if_pos (by omega)]; omega)
                           | (rw [if_neg (fun q => q ⟨hv6, hv13⟩), if_neg (by omega), if_neg (by omega), if_neg (by omega)]; omega))
                · refine wk_iload (i := 5) (q := 119) dX7_copy_117 rfl rfl ?_
                  refine wk_aload_n (i := 0) (q := 120) dX7_copy_119 rfl rfl rfl ?_
                  refine wk_getR (fi := 3) (q := 123) dX7_copy_120 rfl fl_X7_13 rfl rfl hM.ob hM.r3 ?_
                  refine wk_iload_n (i := 1) (q := 124) dX7_copy_123 rfl rfl rfl ?_
                  refine wk_iald (q := 125) dX7_copy_124 rfl hM.s3 (by omega) ?_
                  refine wk_iload_n (i := 2) (q := 126) dX7_copy_125 rfl rfl rfl ?_
                  refine wk_isub (q := 127) dX7_copy_126 rfl ?_
                  rw [up_na _ _ _ _ (by omega), l1]
                  refine wk_icmp_gt (t := 144) (q := 130) dX7_copy_127 rfl rfl (by omega) (by omega) (fun hc127 => ?_) (fun hc127 => ?_)
                  · refine wk_aload_n (i := 0) (q := 145) dX7_copy_144 rfl rfl rfl ?_
                    refine wk_iconst (q := 146) dX7_copy_145 rfl ?_
                    refine wk_cZ1 (q := 149) dX7_copy_146 rfl vl_X7_145 ⟨_, _, rfl⟩ hM.ob (ct_X7_fails hM) (qRo_m ok_X7_fails (by decide) (Nat.le_refl _) (Nat.le_refl _)) (Nat.le_of_ble_eq_true rfl) (fun v146 I146 L146 R146 hv146 => ?_)
                    obtain ⟨rfl, rfl, rfl, rfl⟩ := hv146
                    rw [up2_0]
                    refine wk_iret dX7_copy_149 rfl ⟨Nat.le_refl _, Nat.le_refl _⟩ rfl ?_
                    first
                      | (exfalso; omega)
                      | (refine mp_fault h rfl ?_ ?_
                         · unfold s_copy
                           first
                             | rw [if_pos (fun q => hv6 q.1)]
                             | rw [if_pos (fun q => hv13 q.2)]
                             | rw [if_neg (fun q => q ⟨hv6, hv13⟩), if_pos (by omega)]
                             | rw [if_neg (fun q => q ⟨hv6, hv13⟩), if_neg (by omega), if_pos (by omega)]
                             | rw [if_neg (fun q => q ⟨hv6, hv13⟩), if_neg (by omega), if_neg (by omega), if_neg (by omega)]
                         · unfold r_copy
                           first
                             | rw [if_pos (fun q => hv6 q.1)]
                             | rw [if_pos (fun q => hv13 q.2)]
                             | (rw [if_neg (fun q => q ⟨hv6, hv13⟩), if_pos (by omega)]; omega)
                             | (rw [if_neg (fun q => q ⟨hv6, hv13⟩), if_neg (by omega), if_pos (by omega)]; omega)
                             | (rw [if_neg (fun q => q ⟨hv6, hv13⟩), if_neg (by omega), if_neg (by omega), if_neg (by omega)]; omega))
                  · refine wk_iload (i := 5) (q := 132) dX7_copy_130 rfl rfl ?_
                    refine wk_aload_n (i := 0) (q := 133) dX7_copy_132 rfl rfl rfl ?_
                    refine wk_getR (fi := 3) (q := 136) dX7_copy_133 rfl fl_X7_13 rfl rfl hM.ob hM.r3 ?_
                    refine wk_iload_n (i := 3) (q := 137) dX7_copy_136 rfl rfl rfl ?_
                    refine wk_iald (q := 138) dX7_copy_137 rfl hM.s3 (by omega) ?_
                    refine wk_iload (i := 4) (q := 140) dX7_copy_138 rfl rfl ?_
                    refine wk_isub (q := 141) dX7_copy_140 rfl ?_
                    rw [up_na _ _ _ _ (by omega), l2]
                    refine wk_icmp_le (t := 150) (q := 144) dX7_copy_141 rfl rfl (by omega) (by omega) (fun hc141 => ?_) (fun hc141 => ?_)
                    · refine wk_iload_n (i := 2) (q := 151) dX7_copy_150 rfl rfl rfl ?_
                      refine wk_iload (i := 4) (q := 153) dX7_copy_151 rfl rfl ?_
                      refine wk_icmp_ge (t := 160) (q := 156) dX7_copy_153 rfl rfl (by omega) (by omega) (fun hc153 => ?_) (fun hc153 => ?_)
                      · refine wk_iconst (q := 161) dX7_copy_160 rfl ?_
                        refine wk_istore (i := 7) (lo' := [(0, _), (1, _), (2, _), (3, _), (4, _), (5, _), (6, _), (7, _)]) (q := 163) dX7_copy_161 rfl (by decide) rfl ?_
                        refine wk_iconst (q := 164) dX7_copy_163 rfl ?_
                        refine wk_istore (i := 8) (lo' := [(0, _), (1, _), (2, _), (3, _), (4, _), (5, _), (6, _), (7, _), (8, _)]) (q := 166) dX7_copy_164 rfl (by decide) rfl ?_
                        first
                          | (exfalso; omega)
                          | (refine loop _ (by omega) hv6 hv13 (by omega) (by omega) (by omega) (by omega) 0 (Nat.zero_le _) _ ⟨fun _ _ _ => rfl, fun p p0 p1 => ?_⟩
                             rw [up_na _ _ _ _ (by omega), if_neg (by split <;> omega)])
                      · refine wk_iconst (q := 157) dX7_copy_156 rfl ?_
                        refine wk_goto (t := 161) dX7_copy_157 rfl ?_
                        refine wk_istore (i := 7) (lo' := [(0, _), (1, _), (2, _), (3, _), (4, _), (5, _), (6, _), (7, _)]) (q := 163) dX7_copy_161 rfl (by decide) rfl ?_
                        refine wk_iconst (q := 164) dX7_copy_163 rfl ?_
                        refine wk_istore (i := 8) (lo' := [(0, _), (1, _), (2, _), (3, _), (4, _), (5, _), (6, _), (7, _), (8, _)]) (q := 166) dX7_copy_164 rfl (by decide) rfl ?_
                        first
                          | (exfalso; omega)
                          | (refine loop _ (by omega) hv6 hv13 (by omega) (by omega) (by omega) (by omega) 0 (Nat.zero_le _) _ ⟨fun _ _ _ => rfl, fun p p0 p1 => ?_⟩
                             rw [up_na _ _ _ _ (by omega), if_neg (by split <;> omega)])
                    · refine wk_aload_n (i := 0) (q := 145) dX7_copy_144 rfl rfl rfl ?_
                      refine wk_iconst (q := 146) dX7_copy_145 rfl ?_
                      refine wk_cZ1 (q := 149) dX7_copy_146 rfl vl_X7_145 ⟨_, _, rfl⟩ hM.ob (ct_X7_fails hM) (qRo_m ok_X7_fails (by decide) (Nat.le_refl _) (Nat.le_refl _)) (Nat.le_of_ble_eq_true rfl) (fun v146 I146 L146 R146 hv146 => ?_)
                      obtain ⟨rfl, rfl, rfl, rfl⟩ := hv146
                      rw [up2_0]
                      refine wk_iret dX7_copy_149 rfl ⟨Nat.le_refl _, Nat.le_refl _⟩ rfl ?_
                      first
                        | (exfalso; omega)
                        | (refine mp_fault h rfl ?_ ?_
                           · unfold s_copy
                             first
                               | rw [if_pos (fun q => hv6 q.1)]
                               | rw [if_pos (fun q => hv13 q.2)]
                               | rw [if_neg (fun q => q ⟨hv6, hv13⟩), if_pos (by omega)]
                               | rw [if_neg (fun q => q ⟨hv6, hv13⟩), if_neg (by omega), if_pos (by omega)]
                               | rw [if_neg (fun q => q ⟨hv6, hv13⟩), if_neg (by omega), if_neg (by omega), if_neg (by omega)]
                           · unfold r_copy
                             first
                               | rw [if_pos (fun q => hv6 q.1)]
                               | rw [if_pos (fun q => hv13 q.2)]
                               | (rw [if_neg (fun q => q ⟨hv6, hv13⟩), if_pos (by omega)]; omega)
                               | (rw [if_neg (fun q => q ⟨hv6, hv13⟩), if_neg (by omega), if_pos (by omega)]; omega)
                               | (rw [if_neg (fun q => q ⟨hv6, hv13⟩), if_neg (by omega), if_neg (by omega), if_neg (by omega)]; omega))
              · refine wk_iload (i := 5) (q := 81) dX7_copy_79 rfl rfl ?_
                refine wk_if_lt (t := 109) (q := 84) dX7_copy_81 rfl rfl (by omega) (fun hc81 => ?_) (fun hc81 => ?_)
                · refine wk_iconst (q := 110) dX7_copy_109 rfl ?_
                  refine wk_istore (i := 6) (lo' := [(0, _), (1, _), (2, _), (3, _), (4, _), (5, _), (6, _)]) (q := 112) dX7_copy_110 rfl (by decide) rfl ?_
                  refine wk_iload (i := 6) (q := 114) dX7_copy_112 rfl rfl ?_
                  refine wk_if_eq (t := 144) (q := 117) dX7_copy_114 rfl rfl (by omega) (fun hc114 => ?_) (fun hc114 => ?_)
                  · refine wk_aload_n (i := 0) (q := 145) dX7_copy_144 rfl rfl rfl ?_
                    refine wk_iconst (q := 146) dX7_copy_145 rfl ?_
                    refine wk_cZ1 (q := 149) dX7_copy_146 rfl vl_X7_145 ⟨_, _, rfl⟩ hM.ob (ct_X7_fails hM) (qRo_m ok_X7_fails (by decide) (Nat.le_refl _) (Nat.le_refl _)) (Nat.le_of_ble_eq_true rfl) (fun v146 I146 L146 R146 hv146 => ?_)
                    obtain ⟨rfl, rfl, rfl, rfl⟩ := hv146
                    rw [up2_0]
                    refine wk_iret dX7_copy_149 rfl ⟨Nat.le_refl _, Nat.le_refl _⟩ rfl ?_
                    first
                      | (exfalso; omega)
                      | (refine mp_fault h rfl ?_ ?_
                         · unfold s_copy
                           first
                             | rw [if_pos (fun q => hv6 q.1)]
                             | rw [if_pos (fun q => hv13 q.2)]
                             | rw [if_neg (fun q => q ⟨hv6, hv13⟩), if_pos (by omega)]
                             | rw [if_neg (fun q => q ⟨hv6, hv13⟩), if_neg (by omega), if_pos (by omega)]
                             | rw [if_neg (fun q => q ⟨hv6, hv13⟩), if_neg (by omega), if_neg (by omega), if_neg (by omega)]
                         · unfold r_copy
                           first
                             | rw [if_pos (fun q => hv6 q.1)]
                             | rw [if_pos (fun q => hv13 q.2)]
                             | (rw [if_neg (fun q => q ⟨hv6, hv13⟩), if_pos (by omega)]; omega)
                             | (rw [if_neg (fun q => q ⟨hv6, hv13⟩), if_neg (by omega), if_pos (by omega)]; omega)
                             | (rw [if_neg (fun q => q ⟨hv6, hv13⟩), if_neg (by omega), if_neg (by omega), if_neg (by omega)]; omega))
                  · refine wk_iload (i := 5) (q := 119) dX7_copy_117 rfl rfl ?_
                    refine wk_aload_n (i := 0) (q := 120) dX7_copy_119 rfl rfl rfl ?_
                    refine wk_getR (fi := 3) (q := 123) dX7_copy_120 rfl fl_X7_13 rfl rfl hM.ob hM.r3 ?_
                    refine wk_iload_n (i := 1) (q := 124) dX7_copy_123 rfl rfl rfl ?_
                    refine wk_iald (q := 125) dX7_copy_124 rfl hM.s3 (by omega) ?_
                    refine wk_iload_n (i := 2) (q := 126) dX7_copy_125 rfl rfl rfl ?_
                    refine wk_isub (q := 127) dX7_copy_126 rfl ?_
                    rw [up_na _ _ _ _ (by omega), l1]
                    refine wk_icmp_gt (t := 144) (q := 130) dX7_copy_127 rfl rfl (by omega) (by omega) (fun hc127 => ?_) (fun hc127 => ?_)
                    · refine wk_aload_n (i := 0) (q := 145) dX7_copy_144 rfl rfl rfl ?_
                      refine wk_iconst (q := 146) dX7_copy_145 rfl ?_
                      refine wk_cZ1 (q := 149) dX7_copy_146 rfl vl_X7_145 ⟨_, _, rfl⟩ hM.ob (ct_X7_fails hM) (qRo_m ok_X7_fails (by decide) (Nat.le_refl _) (Nat.le_refl _)) (Nat.le_of_ble_eq_true rfl) (fun v146 I146 L146 R146 hv146 => ?_)
                      obtain ⟨rfl, rfl, rfl, rfl⟩ := hv146
                      rw [up2_0]
                      refine wk_iret dX7_copy_149 rfl ⟨Nat.le_refl _, Nat.le_refl _⟩ rfl ?_
                      first
                        | (exfalso; omega)
                        | (refine mp_fault h rfl ?_ ?_
                           · unfold s_copy
                             first
                               | rw [if_pos (fun q => hv6 q.1)]
                               | rw [if_pos (fun q => hv13 q.2)]
                               | rw [if_neg (fun q => q ⟨hv6, hv13⟩), if_pos (by omega)]
                               | rw [if_neg (fun q => q ⟨hv6, hv13⟩), if_neg (by omega), if_pos (by omega)]
                               | rw [if_neg (fun q => q ⟨hv6, hv13⟩), if_neg (by omega), if_neg (by omega), if_neg (by omega)]
                           · unfold r_copy
                             first
                               | rw [if_pos (fun q => hv6 q.1)]
                               | rw [if_pos (fun q => hv13 q.2)]
                               | (rw [if_neg (fun q => q ⟨hv6, hv13⟩), if_pos (by omega)]; omega)
                               | (rw [if_neg (fun q => q ⟨hv6, hv13⟩), if_neg (by omega), if_pos (by omega)]; omega)
                               | (rw [if_neg (fun q => q ⟨hv6, hv13⟩), if_neg (by omega), if_neg (by omega), if_neg (by omega)]; omega))
                    · refine wk_iload (i := 5) (q := 132) dX7_copy_130 rfl rfl ?_
                      refine wk_aload_n (i := 0) (q := 133) dX7_copy_132 rfl rfl rfl ?_
                      refine wk_getR (fi := 3) (q := 136) dX7_copy_133 rfl fl_X7_13 rfl rfl hM.ob hM.r3 ?_
                      refine wk_iload_n (i := 3) (q := 137) dX7_copy_136 rfl rfl rfl ?_
                      refine wk_iald (q := 138) dX7_copy_137 rfl hM.s3 (by omega) ?_
                      refine wk_iload (i := 4) (q := 140) dX7_copy_138 rfl rfl ?_
                      refine wk_isub (q := 141) dX7_copy_140 rfl ?_
                      rw [up_na _ _ _ _ (by omega), l2]
                      refine wk_icmp_le (t := 150) (q := 144) dX7_copy_141 rfl rfl (by omega) (by omega) (fun hc141 => ?_) (fun hc141 => ?_)
                      · refine wk_iload_n (i := 2) (q := 151) dX7_copy_150 rfl rfl rfl ?_
                        refine wk_iload (i := 4) (q := 153) dX7_copy_151 rfl rfl ?_
                        refine wk_icmp_ge (t := 160) (q := 156) dX7_copy_153 rfl rfl (by omega) (by omega) (fun hc153 => ?_) (fun hc153 => ?_)
                        · refine wk_iconst (q := 161) dX7_copy_160 rfl ?_
                          refine wk_istore (i := 7) (lo' := [(0, _), (1, _), (2, _), (3, _), (4, _), (5, _), (6, _), (7, _)]) (q := 163) dX7_copy_161 rfl (by decide) rfl ?_
                          refine wk_iconst (q := 164) dX7_copy_163 rfl ?_
                          refine wk_istore (i := 8) (lo' := [(0, _), (1, _), (2, _), (3, _), (4, _), (5, _), (6, _), (7, _), (8, _)]) (q := 166) dX7_copy_164 rfl (by decide) rfl ?_
                          first
                            | (exfalso; omega)
                            | (refine loop _ (by omega) hv6 hv13 (by omega) (by omega) (by omega) (by omega) 0 (Nat.zero_le _) _ ⟨fun _ _ _ => rfl, fun p p0 p1 => ?_⟩
                               rw [up_na _ _ _ _ (by omega), if_neg (by split <;> omega)])
                        · refine wk_iconst (q := 157) dX7_copy_156 rfl ?_
                          refine wk_goto (t := 161) dX7_copy_157 rfl ?_
                          refine wk_istore (i := 7) (lo' := [(0, _), (1, _), (2, _), (3, _), (4, _), (5, _), (6, _), (7, _)]) (q := 163) dX7_copy_161 rfl (by decide) rfl ?_
                          refine wk_iconst (q := 164) dX7_copy_163 rfl ?_
                          refine wk_istore (i := 8) (lo' := [(0, _), (1, _), (2, _), (3, _), (4, _), (5, _), (6, _), (7, _), (8, _)]) (q := 166) dX7_copy_164 rfl (by decide) rfl ?_
                          first
                            | (exfalso; omega)
                            | (refine loop _ (by omega) hv6 hv13 (by omega) (by omega) (by omega) (by omega) 0 (Nat.zero_le _) _ ⟨fun _ _ _ => rfl, fun p p0 p1 => ?_⟩
                               rw [up_na _ _ _ _ (by omega), if_neg (by split <;> omega)])
                      · refine wk_aload_n (i := 0) (q := 145) dX7_copy_144 rfl rfl rfl ?_
                        refine wk_iconst (q := 146) dX7_copy_145 rfl ?_
                        refine wk_cZ1 (q := 149) dX7_copy_146 rfl vl_X7_145 ⟨_, _, rfl⟩ hM.ob (ct_X7_fails hM) (qRo_m ok_X7_fails (by decide) (Nat.le_refl _) (Nat.le_refl _)) (Nat.le_of_ble_eq_true rfl) (fun v146 I146 L146 R146 hv146 => ?_)
                        obtain ⟨rfl, rfl, rfl, rfl⟩ := hv146
                        rw [up2_0]
                        refine wk_iret dX7_copy_149 rfl ⟨Nat.le_refl _, Nat.le_refl _⟩ rfl ?_
                        first
                          | (exfalso; omega)
                          | (refine mp_fault h rfl ?_ ?_
                             · unfold s_copy
                               first
                                 | rw [if_pos (fun q => hv6 q.1)]
                                 | rw [if_pos (fun q => hv13 q.2)]
                                 | rw [if_neg (fun q => q ⟨hv6, hv13⟩), if_pos (by omega)]
                                 | rw [if_neg (fun q => q ⟨hv6, hv13⟩), if_neg (by omega), if_pos (by omega)]
                                 | rw [if_neg (fun q => q ⟨hv6, hv13⟩), if_neg (by omega), if_neg (by omega), if_neg (by omega)]
                             · unfold r_copy
                               first
                                 | rw [if_pos (fun q => hv6 q.1)]
                                 | rw [if_pos (fun q => hv13 q.2)]
                                 | (rw [if_neg (fun q => q ⟨hv6, hv13⟩), if_pos (by omega)]; omega)
                                 | (rw [if_neg (fun q => q ⟨hv6, hv13⟩), if_neg (by omega), if_pos (by omega)]; omega)
                                 | (rw [if_neg (fun q => q ⟨hv6, hv13⟩), if_neg (by omega), if_neg (by omega), if_neg (by omega)]; omega))
                · refine wk_iload_n (i := 2) (q := 85) dX7_copy_84 rfl rfl rfl ?_
                  refine wk_aload_n (i := 0) (q := 86) dX7_copy_85 rfl rfl rfl ?_
                  refine wk_getR (fi := 3) (q := 89) dX7_copy_86 rfl fl_X7_13 rfl rfl hM.ob hM.r3 ?_
                  refine wk_iload_n (i := 1) (q := 90) dX7_copy_89 rfl rfl rfl ?_
                  refine wk_iald (q := 91) dX7_copy_90 rfl hM.s3 (by omega) ?_
                  rw [up_na _ _ _ _ (by omega), l1]
                  refine wk_icmp_gt (t := 109) (q := 94) dX7_copy_91 rfl rfl (by omega) (by omega) (fun hc91 => ?_) (fun hc91 => ?_)
                  · refine wk_iconst (q := 110) dX7_copy_109 rfl ?_
                    refine wk_istore (i := 6) (lo' := [(0, _), (1, _), (2, _), (3, _), (4, _), (5, _), (6, _)]) (q := 112) dX7_copy_110 rfl (by decide) rfl ?_
                    refine wk_iload (i := 6) (q := 114) dX7_copy_112 rfl rfl ?_
                    refine wk_if_eq (t := 144) (q := 117) dX7_copy_114 rfl rfl (by omega) (fun hc114 => ?_) (fun hc114 => ?_)
                    · refine wk_aload_n (i := 0) (q := 145) dX7_copy_144 rfl rfl rfl ?_
                      refine wk_iconst (q := 146) dX7_copy_145 rfl ?_
                      refine wk_cZ1 (q := 149) dX7_copy_146 rfl vl_X7_145 ⟨_, _, rfl⟩ hM.ob (ct_X7_fails hM) (qRo_m ok_X7_fails (by decide) (Nat.le_refl _) (Nat.le_refl _)) (Nat.le_of_ble_eq_true rfl) (fun v146 I146 L146 R146 hv146 => ?_)
                      obtain ⟨rfl, rfl, rfl, rfl⟩ := hv146
                      rw [up2_0]
                      refine wk_iret dX7_copy_149 rfl ⟨Nat.le_refl _, Nat.le_refl _⟩ rfl ?_
                      first
                        | (exfalso; omega)
                        | (refine mp_fault h rfl ?_ ?_
                           · unfold s_copy
                             first
                               | rw [if_pos (fun q => hv6 q.1)]
                               | rw [if_pos (fun q => hv13 q.2)]
                               | rw [if_neg (fun q => q ⟨hv6, hv13⟩), if_pos (by omega)]
                               | rw [if_neg (fun q => q ⟨hv6, hv13⟩), if_neg (by omega), if_pos (by omega)]
                               | rw [if_neg (fun q => q ⟨hv6, hv13⟩), if_neg (by omega), if_neg (by omega), if_neg (by omega)]
                           · unfold r_copy
                             first
                               | rw [if_pos (fun q => hv6 q.1)]
                               | rw [if_pos (fun q => hv13 q.2)]
                               | (rw [if_neg (fun q => q ⟨hv6, hv13⟩), if_pos (by omega)]; omega)
                               | (rw [if_neg (fun q => q ⟨hv6, hv13⟩), if_neg (by omega), if_pos (by omega)]; omega)
                               | (rw [if_neg (fun q => q ⟨hv6, hv13⟩), if_neg (by omega), if_neg (by omega), if_neg (by omega)]; omega))
                    · refine wk_iload (i := 5) (q := 119) dX7_copy_117 rfl rfl ?_
                      refine wk_aload_n (i := 0) (q := 120) dX7_copy_119 rfl rfl rfl ?_
                      refine wk_getR (fi := 3) (q := 123) dX7_copy_120 rfl fl_X7_13 rfl rfl hM.ob hM.r3 ?_
                      refine wk_iload_n (i := 1) (q := 124) dX7_copy_123 rfl rfl rfl ?_
                      refine wk_iald (q := 125) dX7_copy_124 rfl hM.s3 (by omega) ?_
                      refine wk_iload_n (i := 2) (q := 126) dX7_copy_125 rfl rfl rfl ?_
                      refine wk_isub (q := 127) dX7_copy_126 rfl ?_
                      rw [up_na _ _ _ _ (by omega), l1]
                      refine wk_icmp_gt (t := 144) (q := 130) dX7_copy_127 rfl rfl (by omega) (by omega) (fun hc127 => ?_) (fun hc127 => ?_)
                      · refine wk_aload_n (i := 0) (q := 145) dX7_copy_144 rfl rfl rfl ?_
                        refine wk_iconst (q := 146) dX7_copy_145 rfl ?_
                        refine wk_cZ1 (q := 149) dX7_copy_146 rfl vl_X7_145 ⟨_, _, rfl⟩ hM.ob (ct_X7_fails hM) (qRo_m ok_X7_fails (by decide) (Nat.le_refl _) (Nat.le_refl _)) (Nat.le_of_ble_eq_true rfl) (fun v146 I146 L146 R146 hv146 => ?_)
                        obtain ⟨rfl, rfl, rfl, rfl⟩ := hv146
                        rw [up2_0]
                        refine wk_iret dX7_copy_149 rfl ⟨Nat.le_refl _, Nat.le_refl _⟩ rfl ?_
                        first
                          | (exfalso; omega)
                          | (refine mp_fault h rfl ?_ ?_
                             · unfold s_copy
                               first
                                 | rw [if_pos (fun q => hv6 q.1)]
                                 | rw [if_pos (fun q => hv13 q.2)]
                                 | rw [if_neg (fun q => q ⟨hv6, hv13⟩), if_pos (by omega)]
                                 | rw [if_neg (fun q => q ⟨hv6, hv13⟩), if_neg (by omega), if_pos (by omega)]
                                 | rw [if_neg (fun q => q ⟨hv6, hv13⟩), if_neg (by omega), if_neg (by omega), if_neg (by omega)]
                             · unfold r_copy
                               first
                                 | rw [if_pos (fun q => hv6 q.1)]
                                 | rw [if_pos (fun q => hv13 q.2)]
                                 | (rw [if_neg (fun q => q ⟨hv6, hv13⟩), if_pos (by omega)]; omega)
                                 | (rw [if_neg (fun q => q ⟨hv6, hv13⟩), if_neg (by omega), if_pos (by omega)]; omega)
                                 | (rw [if_neg (fun q => q ⟨hv6, hv13⟩), if_neg (by omega), if_neg (by omega), if_neg (by omega)]; omega))
                      · refine wk_iload (i := 5) (q := 132) dX7_copy_130 rfl rfl ?_
                        refine wk_aload_n (i := 0) (q := 133) dX7_copy_132 rfl rfl rfl ?_
                        refine wk_getR (fi := 3) (q := 136) dX7_copy_133 rfl fl_X7_13 rfl rfl hM.ob hM.r3 ?_
                        refine wk_iload_n (i := 3) (q := 137) dX7_copy_136 rfl rfl rfl ?_
                        refine wk_iald (q := 138) dX7_copy_137 rfl hM.s3 (by omega) ?_
                        refine wk_iload (i := 4) (q := 140) dX7_copy_138 rfl rfl ?_
                        refine wk_isub (q := 141) dX7_copy_140 rfl ?_
                        rw [up_na _ _ _ _ (by omega), l2]
                        refine wk_icmp_le (t := 150) (q := 144) dX7_copy_141 rfl rfl (by omega) (by omega) (fun hc141 => ?_) (fun hc141 => ?_)
                        · refine wk_iload_n (i := 2) (q := 151) dX7_copy_150 rfl rfl rfl ?_
                          refine wk_iload (i := 4) (q := 153) dX7_copy_151 rfl rfl ?_
                          refine wk_icmp_ge (t := 160) (q := 156) dX7_copy_153 rfl rfl (by omega) (by omega) (fun hc153 => ?_) (fun hc153 => ?_)
                          · refine wk_iconst (q := 161) dX7_copy_160 rfl ?_
                            refine wk_istore (i := 7) (lo' := [(0, _), (1, _), (2, _), (3, _), (4, _), (5, _), (6, _), (7, _)]) (q := 163) dX7_copy_161 rfl (by decide) rfl ?_
                            refine wk_iconst (q := 164) dX7_copy_163 rfl ?_
                            refine wk_istore (i := 8) (lo' := [(0, _), (1, _), (2, _), (3, _), (4, _), (5, _), (6, _), (7, _), (8, _)]) (q := 166) dX7_copy_164 rfl (by decide) rfl ?_
                            first
                              | (exfalso; omega)
                              | (refine loop _ (by omega) hv6 hv13 (by omega) (by omega) (by omega) (by omega) 0 (Nat.zero_le _) _ ⟨fun _ _ _ => rfl, fun p p0 p1 => ?_⟩
                                 rw [up_na _ _ _ _ (by omega), if_neg (by split <;> omega)])
                          · refine wk_iconst (q := 157) dX7_copy_156 rfl ?_
                            refine wk_goto (t := 161) dX7_copy_157 rfl ?_
                            refine wk_istore (i := 7) (lo' := [(0, _), (1, _), (2, _), (3, _), (4, _), (5, _), (6, _), (7, _)]) (q := 163) dX7_copy_161 rfl (by decide) rfl ?_
                            refine wk_iconst (q := 164) dX7_copy_163 rfl ?_
                            refine wk_istore (i := 8) (lo' := [(0, _), (1, _), (2, _), (3, _), (4, _), (5, _), (6, _), (7, _), (8, _)]) (q := 166) dX7_copy_164 rfl (by decide) rfl ?_
                            first
                              | (exfalso; omega)
                              | (refine loop _ (by omega) hv6 hv13 (by omega) (by omega) (by omega) (by omega) 0 (Nat.zero_le _) _ ⟨fun _ _ _ => rfl, fun p p0 p1 => ?_⟩
                                 rw [up_na _ _ _ _ (by omega), if_neg (by split <;> omega)])
                        · refine wk_aload_n (i := 0) (q := 145) dX7_copy_144 rfl rfl rfl ?_
                          refine wk_iconst (q := 146) dX7_copy_145 rfl ?_
                          refine wk_cZ1 (q := 149) dX7_copy_146 rfl vl_X7_145 ⟨_, _, rfl⟩ hM.ob (ct_X7_fails hM) (qRo_m ok_X7_fails (by decide) (Nat.le_refl _) (Nat.le_refl _)) (Nat.le_of_ble_eq_true rfl) (fun v146 I146 L146 R146 hv146 => ?_)
                          obtain ⟨rfl, rfl, rfl, rfl⟩ := hv146
                          rw [up2_0]
                          refine wk_iret dX7_copy_149 rfl ⟨Nat.le_refl _, Nat.le_refl _⟩ rfl ?_
                          first
                            | (exfalso; omega)
                            | (refine mp_fault h rfl ?_ ?_
                               · unfold s_copy
                                 first
                                   | rw [if_pos (fun q => hv6 q.1)]
                                   | rw [if_pos (fun q => hv13 q.2)]
                                   | rw [if_neg (fun q => q ⟨hv6, hv13⟩), if_pos (by omega)]
                                   | rw [if_neg (fun q => q ⟨hv6, hv13⟩), if_neg (by omega), if_pos (by omega)]
                                   | rw [if_neg (fun q => q ⟨hv6, hv13⟩), if_neg (by omega), if_neg (by omega), if_neg (by omega)]
                               · unfold r_copy
                                 first
                                   | rw [if_pos (fun q => hv6 q.1)]
                                   | rw [if_pos (fun q => hv13 q.2)]
                                   | (rw [if_neg (fun q => q ⟨hv6, hv13⟩), if_pos (by omega)]; omega)
                                   | (rw [if_neg (fun q => q ⟨hv6, hv13⟩), if_neg (by omega), if_pos (by omega)]; omega)
                                   | (rw [if_neg (fun q => q ⟨hv6, hv13⟩), if_neg (by omega), if_neg (by omega), if_neg (by omega)]; omega))
                  · refine wk_iload (i := 4) (q := 96) dX7_copy_94 rfl rfl ?_
                    refine wk_aload_n (i := 0) (q := 97) dX7_copy_96 rfl rfl rfl ?_
                    refine wk_getR (fi := 3) (q := 100) dX7_copy_97 rfl fl_X7_13 rfl rfl hM.ob hM.r3 ?_
                    refine wk_iload_n (i := 3) (q := 101) dX7_copy_100 rfl rfl rfl ?_
                    refine wk_iald (q := 102) dX7_copy_101 rfl hM.s3 (by omega) ?_
                    rw [up_na _ _ _ _ (by omega), l2]
                    refine wk_icmp_gt (t := 109) (q := 105) dX7_copy_102 rfl rfl (by omega) (by omega) (fun hc102 => ?_) (fun hc102 => ?_)
                    · refine wk_iconst (q := 110) dX7_copy_109 rfl ?_
                      refine wk_istore (i := 6) (lo' := [(0, _), (1, _), (2, _), (3, _), (4, _), (5, _), (6, _)]) (q := 112) dX7_copy_110 rfl (by decide) rfl ?_
                      refine wk_iload (i := 6) (q := 114) dX7_copy_112 rfl rfl ?_
                      refine wk_if_eq (t := 144) (q := 117) dX7_copy_114 rfl rfl (by omega) (fun hc114 => ?_) (fun hc114 => ?_)
                      · refine wk_aload_n (i := 0) (q := 145) dX7_copy_144 rfl rfl rfl ?_
                        refine wk_iconst (q := 146) dX7_copy_145 rfl ?_
                        refine wk_cZ1 (q := 149) dX7_copy_146 rfl vl_X7_145 ⟨_, _, rfl⟩ hM.ob (ct_X7_fails hM) (qRo_m ok_X7_fails (by decide) (Nat.le_refl _) (Nat.le_refl _)) (Nat.le_of_ble_eq_true rfl) (fun v146 I146 L146 R146 hv146 => ?_)
                        obtain ⟨rfl, rfl, rfl, rfl⟩ := hv146
                        rw [up2_0]
                        refine wk_iret dX7_copy_149 rfl ⟨Nat.le_refl _, Nat.le_refl _⟩ rfl ?_
                        first
                          | (exfalso; omega)
                          | (refine mp_fault h rfl ?_ ?_
                             · unfold s_copy
                               first
                                 | rw [if_pos (fun q => hv6 q.1)]
                                 | rw [if_pos (fun q => hv13 q.2)]
                                 | rw [if_neg (fun q => q ⟨hv6, hv13⟩), if_pos (by omega)]
                                 | rw [if_neg (fun q => q ⟨hv6, hv13⟩), if_neg (by omega), if_pos (by omega)]
                                 | rw [if_neg (fun q => q ⟨hv6, hv13⟩), if_neg (by omega), if_neg (by omega), if_neg (by omega)]
                             · unfold r_copy
                               first
                                 | rw [if_pos (fun q => hv6 q.1)]
                                 | rw [if_pos (fun q => hv13 q.2)]
                                 | (rw [if_neg (fun q => q ⟨hv6, hv13⟩), if_pos (by omega)]; omega)
                                 | (rw [if_neg (fun q => q ⟨hv6, hv13⟩), if_neg (by omega), if_pos (by omega)]; omega)
                                 | (rw [if_neg (fun q => q ⟨hv6, hv13⟩), if_neg (by omega), if_neg (by omega), if_neg (by omega)]; omega))
                      · refine wk_iload (i := 5) (q := 119) dX7_copy_117 rfl rfl ?_
                        refine wk_aload_n (i := 0) (q := 120) dX7_copy_119 rfl rfl rfl ?_
                        refine wk_getR (fi := 3) (q := 123) dX7_copy_120 rfl fl_X7_13 rfl rfl hM.ob hM.r3 ?_
                        refine wk_iload_n (i := 1) (q := 124) dX7_copy_123 rfl rfl rfl ?_
                        refine wk_iald (q := 125) dX7_copy_124 rfl hM.s3 (by omega) ?_
                        refine wk_iload_n (i := 2) (q := 126) dX7_copy_125 rfl rfl rfl ?_
                        refine wk_isub (q := 127) dX7_copy_126 rfl ?_
                        rw [up_na _ _ _ _ (by omega), l1]
                        refine wk_icmp_gt (t := 144) (q := 130) dX7_copy_127 rfl rfl (by omega) (by omega) (fun hc127 => ?_) (fun hc127 => ?_)
                        · refine wk_aload_n (i := 0) (q := 145) dX7_copy_144 rfl rfl rfl ?_
                          refine wk_iconst (q := 146) dX7_copy_145 rfl ?_
                          refine wk_cZ1 (q := 149) dX7_copy_146 rfl vl_X7_145 ⟨_, _, rfl⟩ hM.ob (ct_X7_fails hM) (qRo_m ok_X7_fails (by decide) (Nat.le_refl _) (Nat.le_refl _)) (Nat.le_of_ble_eq_true rfl) (fun v146 I146 L146 R146 hv146 => ?_)
                          obtain ⟨rfl, rfl, rfl, rfl⟩ := hv146
                          rw [up2_0]
                          refine wk_iret dX7_copy_149 rfl ⟨Nat.le_refl _, Nat.le_refl _⟩ rfl ?_
                          first
                            | (exfalso; omega)
                            | (refine mp_fault h rfl ?_ ?_
                               · unfold s_copy
                                 first
                                   | rw [if_pos (fun q => hv6 q.1)]
                                   | rw [if_pos (fun q => hv13 q.2)]
                                   | rw [if_neg (fun q => q ⟨hv6, hv13⟩), if_pos (by omega)]
                                   | rw [if_neg (fun q => q ⟨hv6, hv13⟩), if_neg (by omega), if_pos (by omega)]
                                   | rw [if_neg (fun q => q ⟨hv6, hv13⟩), if_neg (by omega), if_neg (by omega), if_neg (by omega)]
                               · unfold r_copy
                                 first
                                   | rw [if_pos (fun q => hv6 q.1)]
                                   | rw [if_pos (fun q => hv13 q.2)]
                                   | (rw [if_neg (fun q => q ⟨hv6, hv13⟩), if_pos (by omega)]; omega)
                                   | (rw [if_neg (fun q => q ⟨hv6, hv13⟩), if_neg (by omega), if_pos (by omega)]; omega)
                                   | (rw [if_neg (fun q => q ⟨hv6, hv13⟩), if_neg (by omega), if_neg (by omega), if_neg (by omega)]; omega))
                        · refine wk_iload (i := 5) (q := 132) dX7_copy_130 rfl rfl ?_
                          refine wk_aload_n (i := 0) (q := 133) dX7_copy_132 rfl rfl rfl ?_
                          refine wk_getR (fi := 3) (q := 136) dX7_copy_133 rfl fl_X7_13 rfl rfl hM.ob hM.r3 ?_
                          refine wk_iload_n (i := 3) (q := 137) dX7_copy_136 rfl rfl rfl ?_
                          refine wk_iald (q := 138) dX7_copy_137 rfl hM.s3 (by omega) ?_
                          refine wk_iload (i := 4) (q := 140) dX7_copy_138 rfl rfl ?_
                          refine wk_isub (q := 141) dX7_copy_140 rfl ?_
                          rw [up_na _ _ _ _ (by omega), l2]
                          refine wk_icmp_le (t := 150) (q := 144) dX7_copy_141 rfl rfl (by omega) (by omega) (fun hc141 => ?_) (fun hc141 => ?_)
                          · refine wk_iload_n (i := 2) (q := 151) dX7_copy_150 rfl rfl rfl ?_
                            refine wk_iload (i := 4) (q := 153) dX7_copy_151 rfl rfl ?_
                            refine wk_icmp_ge (t := 160) (q := 156) dX7_copy_153 rfl rfl (by omega) (by omega) (fun hc153 => ?_) (fun hc153 => ?_)
                            · refine wk_iconst (q := 161) dX7_copy_160 rfl ?_
                              refine wk_istore (i := 7) (lo' := [(0, _), (1, _), (2, _), (3, _), (4, _), (5, _), (6, _), (7, _)]) (q := 163) dX7_copy_161 rfl (by decide) rfl ?_
                              refine wk_iconst (q := 164) dX7_copy_163 rfl ?_
                              refine wk_istore (i := 8) (lo' := [(0, _), (1, _), (2, _), (3, _), (4, _), (5, _), (6, _), (7, _), (8, _)]) (q := 166) dX7_copy_164 rfl (by decide) rfl ?_
                              first
                                | (exfalso; omega)
                                | (refine loop _ (by omega) hv6 hv13 (by omega) (by omega) (by omega) (by omega) 0 (Nat.zero_le _) _ ⟨fun _ _ _ => rfl, fun p p0 p1 => ?_⟩
                                   rw [up_na _ _ _ _ (by omega), if_neg (by split <;> omega)])
                            · refine wk_iconst (q := 157) dX7_copy_156 rfl ?_
                              refine wk_goto (t := 161) dX7_copy_157 rfl ?_
                              refine wk_istore (i := 7) (lo' := [(0, _), (1, _), (2, _), (3, _), (4, _), (5, _), (6, _), (7, _)]) (q := 163) dX7_copy_161 rfl (by decide) rfl ?_
                              refine wk_iconst (q := 164) dX7_copy_163 rfl ?_
                              refine wk_istore (i := 8) (lo' := [(0, _), (1, _), (2, _), (3, _), (4, _), (5, _), (6, _), (7, _), (8, _)]) (q := 166) dX7_copy_164 rfl (by decide) rfl ?_
                              first
                                | (exfalso; omega)
                                | (refine loop _ (by omega) hv6 hv13 (by omega) (by omega) (by omega) (by omega) 0 (Nat.zero_le _) _ ⟨fun _ _ _ => rfl, fun p p0 p1 => ?_⟩
                                   rw [up_na _ _ _ _ (by omega), if_neg (by split <;> omega)])
                          · refine wk_aload_n (i := 0) (q := 145) dX7_copy_144 rfl rfl rfl ?_
                            refine wk_iconst (q := 146) dX7_copy_145 rfl ?_
                            refine wk_cZ1 (q := 149) dX7_copy_146 rfl vl_X7_145 ⟨_, _, rfl⟩ hM.ob (ct_X7_fails hM) (qRo_m ok_X7_fails (by decide) (Nat.le_refl _) (Nat.le_refl _)) (Nat.le_of_ble_eq_true rfl) (fun v146 I146 L146 R146 hv146 => ?_)
                            obtain ⟨rfl, rfl, rfl, rfl⟩ := hv146
                            rw [up2_0]
                            refine wk_iret dX7_copy_149 rfl ⟨Nat.le_refl _, Nat.le_refl _⟩ rfl ?_
                            first
                              | (exfalso; omega)
                              | (refine mp_fault h rfl ?_ ?_
                                 · unfold s_copy
                                   first
                                     | rw [if_pos (fun q => hv6 q.1)]
                                     | rw [if_pos (fun q => hv13 q.2)]
                                     | rw [if_neg (fun q => q ⟨hv6, hv13⟩), if_pos (by omega)]
                                     | rw [if_neg (fun q => q ⟨hv6, hv13⟩), if_neg (by omega), if_pos (by omega)]
                                     | rw [if_neg (fun q => q ⟨hv6, hv13⟩), if_neg (by omega), if_neg (by omega), if_neg (by omega)]
                                 · unfold r_copy
                                   first
                                     | rw [if_pos (fun q => hv6 q.1)]
                                     | rw [if_pos (fun q => hv13 q.2)]
                                     | (rw [if_neg (fun q => q ⟨hv6, hv13⟩), if_pos (by omega)]; omega)
                                     | (rw [if_neg (fun q => q ⟨hv6, hv13⟩), if_neg (by omega), if_pos (by omega)]; omega)
                                     | (rw [if_neg (fun q => q ⟨hv6, hv13⟩), if_neg (by omega), if_neg (by omega), if_neg (by omega)]; omega))
                    · refine wk_iconst (q := 106) dX7_copy_105 rfl ?_
                      refine wk_goto (t := 110) dX7_copy_106 rfl ?_
                      refine wk_istore (i := 6) (lo' := [(0, _), (1, _), (2, _), (3, _), (4, _), (5, _), (6, _)]) (q := 112) dX7_copy_110 rfl (by decide) rfl ?_
                      refine wk_iload (i := 6) (q := 114) dX7_copy_112 rfl rfl ?_
                      refine wk_if_eq (t := 144) (q := 117) dX7_copy_114 rfl rfl (by omega) (fun hc114 => ?_) (fun hc114 => ?_)
                      · refine wk_aload_n (i := 0) (q := 145) dX7_copy_144 rfl rfl rfl ?_
                        refine wk_iconst (q := 146) dX7_copy_145 rfl ?_
                        refine wk_cZ1 (q := 149) dX7_copy_146 rfl vl_X7_145 ⟨_, _, rfl⟩ hM.ob (ct_X7_fails hM) (qRo_m ok_X7_fails (by decide) (Nat.le_refl _) (Nat.le_refl _)) (Nat.le_of_ble_eq_true rfl) (fun v146 I146 L146 R146 hv146 => ?_)
                        obtain ⟨rfl, rfl, rfl, rfl⟩ := hv146
                        rw [up2_0]
                        refine wk_iret dX7_copy_149 rfl ⟨Nat.le_refl _, Nat.le_refl _⟩ rfl ?_
                        first
                          | (exfalso; omega)
                          | (refine mp_fault h rfl ?_ ?_
                             · unfold s_copy
                               first
                                 | rw [if_pos (fun q => hv6 q.1)]
                                 | rw [if_pos (fun q => hv13 q.2)]
                                 | rw [if_neg (fun q => q ⟨hv6, hv13⟩), if_pos (by omega)]
                                 | rw [if_neg (fun q => q ⟨hv6, hv13⟩), if_neg (by omega), if_pos (by omega)]
                                 | rw [if_neg (fun q => q ⟨hv6, hv13⟩), if_neg (by omega), if_neg (by omega), if_neg (by omega)]
                             · unfold r_copy
                               first
                                 | rw [if_pos (fun q => hv6 q.1)]
                                 | rw [if_pos (fun q => hv13 q.2)]
                                 | (rw [if_neg (fun q => q ⟨hv6, hv13⟩), if_pos (by omega)]; omega)
                                 | (rw [if_neg (fun q => q ⟨hv6, hv13⟩), if_neg (by omega), if_pos (by omega)]; omega)
                                 | (rw [if_neg (fun q => q ⟨hv6, hv13⟩), if_neg (by omega), if_neg (by omega), if_neg (by omega)]; omega))
                      · refine wk_iload (i := 5) (q := 119) dX7_copy_117 rfl rfl ?_
                        refine wk_aload_n (i := 0) (q := 120) dX7_copy_119 rfl rfl rfl ?_
                        refine wk_getR (fi := 3) (q := 123) dX7_copy_120 rfl fl_X7_13 rfl rfl hM.ob hM.r3 ?_
                        refine wk_iload_n (i := 1) (q := 124) dX7_copy_123 rfl rfl rfl ?_
                        refine wk_iald (q := 125) dX7_copy_124 rfl hM.s3 (by omega) ?_
                        refine wk_iload_n (i := 2) (q := 126) dX7_copy_125 rfl rfl rfl ?_
                        refine wk_isub (q := 127) dX7_copy_126 rfl ?_
                        rw [up_na _ _ _ _ (by omega), l1]
                        refine wk_icmp_gt (t := 144) (q := 130) dX7_copy_127 rfl rfl (by omega) (by omega) (fun hc127 => ?_) (fun hc127 => ?_)
                        · refine wk_aload_n (i := 0) (q := 145) dX7_copy_144 rfl rfl rfl ?_
                          refine wk_iconst (q := 146) dX7_copy_145 rfl ?_
                          refine wk_cZ1 (q := 149) dX7_copy_146 rfl vl_X7_145 ⟨_, _, rfl⟩ hM.ob (ct_X7_fails hM) (qRo_m ok_X7_fails (by decide) (Nat.le_refl _) (Nat.le_refl _)) (Nat.le_of_ble_eq_true rfl) (fun v146 I146 L146 R146 hv146 => ?_)
                          obtain ⟨rfl, rfl, rfl, rfl⟩ := hv146
                          rw [up2_0]
                          refine wk_iret dX7_copy_149 rfl ⟨Nat.le_refl _, Nat.le_refl _⟩ rfl ?_
                          first
                            | (exfalso; omega)
                            | (refine mp_fault h rfl ?_ ?_
                               · unfold s_copy
                                 first
                                   | rw [if_pos (fun q => hv6 q.1)]
                                   | rw [if_pos (fun q => hv13 q.2)]
                                   | rw [if_neg (fun q => q ⟨hv6, hv13⟩), if_pos (by omega)]
                                   | rw [if_neg (fun q => q ⟨hv6, hv13⟩), if_neg (by omega), if_pos (by omega)]
                                   | rw [if_neg (fun q => q ⟨hv6, hv13⟩), if_neg (by omega), if_neg (by omega), if_neg (by omega)]
                               · unfold r_copy
                                 first
                                   | rw [if_pos (fun q => hv6 q.1)]
                                   | rw [if_pos (fun q => hv13 q.2)]
                                   | (rw [if_neg (fun q => q ⟨hv6, hv13⟩), if_pos (by omega)]; omega)
                                   | (rw [if_neg (fun q => q ⟨hv6, hv13⟩), if_neg (by omega), if_pos (by omega)]; omega)
                                   | (rw [if_neg (fun q => q ⟨hv6, hv13⟩), if_neg (by omega), if_neg (by omega), if_neg (by omega)]; omega))
                        · refine wk_iload (i := 5) (q := 132) dX7_copy_130 rfl rfl ?_
                          refine wk_aload_n (i := 0) (q := 133) dX7_copy_132 rfl rfl rfl ?_
                          refine wk_getR (fi := 3) (q := 136) dX7_copy_133 rfl fl_X7_13 rfl rfl hM.ob hM.r3 ?_
                          refine wk_iload_n (i := 3) (q := 137) dX7_copy_136 rfl rfl rfl ?_
                          refine wk_iald (q := 138) dX7_copy_137 rfl hM.s3 (by omega) ?_
                          refine wk_iload (i := 4) (q := 140) dX7_copy_138 rfl rfl ?_
                          refine wk_isub (q := 141) dX7_copy_140 rfl ?_
                          rw [up_na _ _ _ _ (by omega), l2]
                          refine wk_icmp_le (t := 150) (q := 144) dX7_copy_141 rfl rfl (by omega) (by omega) (fun hc141 => ?_) (fun hc141 => ?_)
                          · refine wk_iload_n (i := 2) (q := 151) dX7_copy_150 rfl rfl rfl ?_
                            refine wk_iload (i := 4) (q := 153) dX7_copy_151 rfl rfl ?_
                            refine wk_icmp_ge (t := 160) (q := 156) dX7_copy_153 rfl rfl (by omega) (by omega) (fun hc153 => ?_) (fun hc153 => ?_)
                            · refine wk_iconst (q := 161) dX7_copy_160 rfl ?_
                              refine wk_istore (i := 7) (lo' := [(0, _), (1, _), (2, _), (3, _), (4, _), (5, _), (6, _), (7, _)]) (q := 163) dX7_copy_161 rfl (by decide) rfl ?_
                              refine wk_iconst (q := 164) dX7_copy_163 rfl ?_
                              refine wk_istore (i := 8) (lo' := [(0, _), (1, _), (2, _), (3, _), (4, _), (5, _), (6, _), (7, _), (8, _)]) (q := 166) dX7_copy_164 rfl (by decide) rfl ?_
                              first
                                | (exfalso; omega)
                                | (refine loop _ (by omega) hv6 hv13 (by omega) (by omega) (by omega) (by omega) 0 (Nat.zero_le _) _ ⟨fun _ _ _ => rfl, fun p p0 p1 => ?_⟩
                                   rw [up_na _ _ _ _ (by omega), if_neg (by split <;> omega)])
                            · refine wk_iconst (q := 157) dX7_copy_156 rfl ?_
                              refine wk_goto (t := 161) dX7_copy_157 rfl ?_
                              refine wk_istore (i := 7) (lo' := [(0, _), (1, _), (2, _), (3, _), (4, _), (5, _), (6, _), (7, _)]) (q := 163) dX7_copy_161 rfl (by decide) rfl ?_
                              refine wk_iconst (q := 164) dX7_copy_163 rfl ?_
                              refine wk_istore (i := 8) (lo' := [(0, _), (1, _), (2, _), (3, _), (4, _), (5, _), (6, _), (7, _), (8, _)]) (q := 166) dX7_copy_164 rfl (by decide) rfl ?_
                              first
                                | (exfalso; omega)
                                | (refine loop _ (by omega) hv6 hv13 (by omega) (by omega) (by omega) (by omega) 0 (Nat.zero_le _) _ ⟨fun _ _ _ => rfl, fun p p0 p1 => ?_⟩
                                   rw [up_na _ _ _ _ (by omega), if_neg (by split <;> omega)])
                          · refine wk_aload_n (i := 0) (q := 145) dX7_copy_144 rfl rfl rfl ?_
                            refine wk_iconst (q := 146) dX7_copy_145 rfl ?_
                            refine wk_cZ1 (q := 149) dX7_copy_146 rfl vl_X7_145 ⟨_, _, rfl⟩ hM.ob (ct_X7_fails hM) (qRo_m ok_X7_fails (by decide) (Nat.le_refl _) (Nat.le_refl _)) (Nat.le_of_ble_eq_true rfl) (fun v146 I146 L146 R146 hv146 => ?_)
                            obtain ⟨rfl, rfl, rfl, rfl⟩ := hv146
                            rw [up2_0]
                            refine wk_iret dX7_copy_149 rfl ⟨Nat.le_refl _, Nat.le_refl _⟩ rfl ?_
                            first
                              | (exfalso; omega)
                              | (refine mp_fault h rfl ?_ ?_
                                 · unfold s_copy
                                   first
                                     | rw [if_pos (fun q => hv6 q.1)]
                                     | rw [if_pos (fun q => hv13 q.2)]
                                     | rw [if_neg (fun q => q ⟨hv6, hv13⟩), if_pos (by omega)]
                                     | rw [if_neg (fun q => q ⟨hv6, hv13⟩), if_neg (by omega), if_pos (by omega)]
                                     | rw [if_neg (fun q => q ⟨hv6, hv13⟩), if_neg (by omega), if_neg (by omega), if_neg (by omega)]
                                 · unfold r_copy
                                   first
                                     | rw [if_pos (fun q => hv6 q.1)]
                                     | rw [if_pos (fun q => hv13 q.2)]
                                     | (rw [if_neg (fun q => q ⟨hv6, hv13⟩), if_pos (by omega)]; omega)
                                     | (rw [if_neg (fun q => q ⟨hv6, hv13⟩), if_neg (by omega), if_pos (by omega)]; omega)
                                     | (rw [if_neg (fun q => q ⟨hv6, hv13⟩), if_neg (by omega), if_neg (by omega), if_neg (by omega)]; omega))
          · refine wk_aload_n (i := 0) (q := 65) dX7_copy_64 rfl rfl rfl ?_
            refine wk_iconst (q := 66) dX7_copy_65 rfl ?_
            refine wk_cZ1 (q := 69) dX7_copy_66 rfl vl_X7_145 ⟨_, _, rfl⟩ hM.ob (ct_X7_fails hM) (qRo_m ok_X7_fails (by decide) (Nat.le_refl _) (Nat.le_refl _)) (Nat.le_of_ble_eq_true rfl) (fun v66 I66 L66 R66 hv66 => ?_)
            obtain ⟨rfl, rfl, rfl, rfl⟩ := hv66
            rw [up2_0]
            refine wk_iret dX7_copy_69 rfl ⟨Nat.le_refl _, Nat.le_refl _⟩ rfl ?_
            first
              | (exfalso; omega)
              | (refine mp_fault h rfl ?_ ?_
                 · unfold s_copy
                   first
                     | rw [if_pos (fun q => hv6 q.1)]
                     | rw [if_pos (fun q => hv13 q.2)]
                     | rw [if_neg (fun q => q ⟨hv6, hv13⟩), if_pos (by omega)]
                     | rw [if_neg (fun q => q ⟨hv6, hv13⟩), if_neg (by omega), if_pos (by omega)]
                     | rw [if_neg (fun q => q ⟨hv6, hv13⟩), if_neg (by omega), if_neg (by omega), if_neg (by omega)]
                 · unfold r_copy
                   first
                     | rw [if_pos (fun q => hv6 q.1)]
                     | rw [if_pos (fun q => hv13 q.2)]
                     | (rw [if_neg (fun q => q ⟨hv6, hv13⟩), if_pos (by omega)]; omega)
                     | (rw [if_neg (fun q => q ⟨hv6, hv13⟩), if_neg (by omega), if_pos (by omega)]; omega)
                     | (rw [if_neg (fun q => q ⟨hv6, hv13⟩), if_neg (by omega), if_neg (by omega), if_neg (by omega)]; omega))
        · refine wk_aload_n (i := 0) (q := 44) dX7_copy_43 rfl rfl rfl ?_
          refine wk_iconst (q := 45) dX7_copy_44 rfl ?_
          refine wk_cZ1 (q := 48) dX7_copy_45 rfl vl_X7_145 ⟨_, _, rfl⟩ hM.ob (ct_X7_fails hM) (qRo_m ok_X7_fails (by decide) (Nat.le_refl _) (Nat.le_refl _)) (Nat.le_of_ble_eq_true rfl) (fun v45 I45 L45 R45 hv45 => ?_)
          obtain ⟨rfl, rfl, rfl, rfl⟩ := hv45
          rw [up2_0]
          refine wk_iret dX7_copy_48 rfl ⟨Nat.le_refl _, Nat.le_refl _⟩ rfl ?_
          first
            | (exfalso; omega)
            | (refine mp_fault h rfl ?_ ?_
               · unfold s_copy
                 first
                   | rw [if_pos (fun q => hv6 q.1)]
                   | rw [if_pos (fun q => hv13 q.2)]
                   | rw [if_neg (fun q => q ⟨hv6, hv13⟩), if_pos (by omega)]
                   | rw [if_neg (fun q => q ⟨hv6, hv13⟩), if_neg (by omega), if_pos (by omega)]
                   | rw [if_neg (fun q => q ⟨hv6, hv13⟩), if_neg (by omega), if_neg (by omega), if_neg (by omega)]
               · unfold r_copy
                 first
                   | rw [if_pos (fun q => hv6 q.1)]
                   | rw [if_pos (fun q => hv13 q.2)]
                   | (rw [if_neg (fun q => q ⟨hv6, hv13⟩), if_pos (by omega)]; omega)
                   | (rw [if_neg (fun q => q ⟨hv6, hv13⟩), if_neg (by omega), if_pos (by omega)]; omega)
                   | (rw [if_neg (fun q => q ⟨hv6, hv13⟩), if_neg (by omega), if_neg (by omega), if_neg (by omega)]; omega))
    · refine wk_if_ne (t := 21) (q := 19) dX7_copy_16 rfl rfl (by omega) (fun hq => absurd hq (by decide)) (fun _ => ?_)
      refine wk_iconst (q := 20) dX7_copy_19 rfl ?_
      refine wk_iret dX7_copy_20 rfl ⟨Nat.le_refl _, Nat.le_refl _⟩ rfl ?_
      first
        | (exfalso; omega)
        | (refine mp_fault h rfl ?_ ?_
           · unfold s_copy
             first
               | rw [if_pos (fun q => hv6 q.1)]
               | rw [if_pos (fun q => hv13 q.2)]
               | rw [if_neg (fun q => q ⟨hv6, hv13⟩), if_pos (by omega)]
               | rw [if_neg (fun q => q ⟨hv6, hv13⟩), if_neg (by omega), if_pos (by omega)]
               | rw [if_neg (fun q => q ⟨hv6, hv13⟩), if_neg (by omega), if_neg (by omega), if_neg (by omega)]
           · unfold r_copy
             first
               | rw [if_pos (fun q => hv6 q.1)]
               | rw [if_pos (fun q => hv13 q.2)]
               | (rw [if_neg (fun q => q ⟨hv6, hv13⟩), if_pos (by omega)]; omega)
               | (rw [if_neg (fun q => q ⟨hv6, hv13⟩), if_neg (by omega), if_pos (by omega)]; omega)
               | (rw [if_neg (fun q => q ⟨hv6, hv13⟩), if_neg (by omega), if_neg (by omega), if_neg (by omega)]; omega))
  · refine wk_if_eq (t := 19) (q := 12) dX7_copy_9 rfl rfl (by omega) (fun _ => ?_) (fun hq => absurd hq (by decide))
    refine wk_iconst (q := 20) dX7_copy_19 rfl ?_
    refine wk_iret dX7_copy_20 rfl ⟨Nat.le_refl _, Nat.le_refl _⟩ rfl ?_
    first
      | (exfalso; omega)
      | (refine mp_fault h rfl ?_ ?_
         · unfold s_copy
           first
             | rw [if_pos (fun q => hv6 q.1)]
             | rw [if_pos (fun q => hv13 q.2)]
             | rw [if_neg (fun q => q ⟨hv6, hv13⟩), if_pos (by omega)]
             | rw [if_neg (fun q => q ⟨hv6, hv13⟩), if_neg (by omega), if_pos (by omega)]
             | rw [if_neg (fun q => q ⟨hv6, hv13⟩), if_neg (by omega), if_neg (by omega), if_neg (by omega)]
         · unfold r_copy
           first
             | rw [if_pos (fun q => hv6 q.1)]
             | rw [if_pos (fun q => hv13 q.2)]
             | (rw [if_neg (fun q => q ⟨hv6, hv13⟩), if_pos (by omega)]; omega)
             | (rw [if_neg (fun q => q ⟨hv6, hv13⟩), if_neg (by omega), if_pos (by omega)]; omega)
             | (rw [if_neg (fun q => q ⟨hv6, hv13⟩), if_neg (by omega), if_neg (by omega), if_neg (by omega)]; omega))
theorem ct_X7_begins {m : Nat} {k : Int} (hM : qMod E.2.2 n sh R m) :
    Ct l E 0 mX7_begins [.ref m, .int (zI k)] (n, sh, I, L, R) 0 0 (qV n sh (fun I' L' R' => I' = up I m 1 (tr1 (I m 1) k) ∧ L' = L ∧ R' = R)) := by
  refine Ct.of (lo := [(0, _), (1, _)]) ok_X7_begins (Nat.le_of_ble_eq_true rfl) rfl ?_
  refine wk_aload_n (i := 0) (q := 1) dX7_begins_0 rfl rfl rfl ?_
  refine wk_bipush (q := 3) dX7_begins_1 rfl (by decide +kernel) ?_
  refine wk_aload_n (i := 0) (q := 4) dX7_begins_3 rfl rfl rfl ?_
  refine wk_getI (fi := 1) (q := 7) dX7_begins_4 rfl fl_X7_316 rfl rfl hM.ob ?_
  refine wk_imul (q := 8) dX7_begins_7 rfl ?_
  refine wk_iload_n (i := 1) (q := 9) dX7_begins_8 rfl rfl rfl ?_
  refine wk_iadd (q := 10) dX7_begins_9 rfl ?_
  refine wk_putI (fi := 1) (q := 13) dX7_begins_10 rfl fl_X7_316 fw_7_1 rfl rfl hM.ob ?_
  refine wk_ret dX7_begins_13 rfl ⟨Nat.le_refl _, Nat.le_refl _⟩ rfl ?_
  exact ⟨_, _, _, rfl, rfl, rfl, rfl, rfl⟩
theorem up2_1 {x : Nat} (f g : Int) : up (up I x 1 f) x 1 g = up I x 1 g := funext fun b => funext fun j => by
  unfold up
  split <;> rfl
theorem om_tell {m : Nat} {V : VV} {g : Int} (hM : qMod E.2.2 n sh R m) (h : MI I m V) (hg : in32 g) :
    Ct l E 1 mX7_tell [.ref m, .int (zI g)] (n, sh, I, L, R) 0 0 (qZ n sh (mpZ m I L R (r_tell V g) (s_tell V g))) := by
  have hng := h.1.ng
  obtain ⟨e5, e6, ed, eg⟩ := h.2.2.2.2.2.1
  have h1 := h.2.2.1
  refine Ct.of (lo := [(0, _), (1, _)]) ok_X7_tell (Nat.le_of_ble_eq_true rfl) rfl ?_
  refine wk_aload_n (i := 0) (q := 1) dX7_tell_0 rfl rfl rfl ?_
  refine wk_iload_n (i := 1) (q := 2) dX7_tell_1 rfl rfl rfl ?_
  refine wk_cP1 (q := 5) dX7_tell_2 rfl vl_X7_184 ⟨_, _, rfl⟩ hM.ob (ct_X7_isGuest hM hg (by omega)) (qRo_m ok_X7_isGuest (by decide) (Nat.le_refl _) (Nat.le_refl _)) (Nat.le_of_ble_eq_true rfl) (fun v2 hv2 => ?_)
  rcases hv2 with ⟨rfl, hv2⟩ | ⟨rfl, hv2⟩
  · rw [e5] at hv2
    refine wk_if_ne (t := 10) (q := 8) dX7_tell_5 rfl rfl (by omega) (fun _ => ?_) (fun hq => absurd hq (by decide))
    refine wk_aload_n (i := 0) (q := 11) dX7_tell_10 rfl rfl rfl ?_
    refine wk_getR (fi := 10) (q := 14) dX7_tell_11 rfl fl_X7_28 rfl rfl hM.ob hM.r10 ?_
    refine wk_iload_n (i := 1) (q := 15) dX7_tell_14 rfl rfl rfl ?_
    refine wk_iald (q := 16) dX7_tell_15 rfl hM.s10 (by omega) ?_
    obtain ⟨k1, k2, -⟩ := eg g hv2.1 hv2.2
    have k3 := (h.1.tab (by omega)).1.2.2.2.2.2 g hv2.1 hv2.2
    rw [k2]
    refine wk_istore_n (i := 2) (lo' := [(0, _), (1, _), (2, _)]) (q := 17) dX7_tell_16 rfl rfl (by decide) rfl ?_
    refine wk_aload_n (i := 0) (q := 18) dX7_tell_17 rfl rfl rfl ?_
    refine wk_getR (fi := 9) (q := 21) dX7_tell_18 rfl fl_X7_25 rfl rfl hM.ob hM.r9 ?_
    refine wk_iload_n (i := 1) (q := 22) dX7_tell_21 rfl rfl rfl ?_
    refine wk_iald (q := 23) dX7_tell_22 rfl hM.s9 (by omega) ?_
    rw [k1]
    refine wk_sw2 (t1 := 48) (t2 := 63) (td := 90) dX7_tell_23 (by decide) rfl rfl rfl (by omega) (fun hs23 => ?_) (fun hs23 => ?_) (fun hs23 hs23' => ?_)
    · refine wk_aload_n (i := 0) (q := 49) dX7_tell_48 rfl rfl rfl ?_
      refine wk_iconst (q := 50) dX7_tell_49 rfl ?_
      refine wk_cV1 (q := 53) dX7_tell_50 rfl vl_X7_319 ⟨_, _, rfl⟩ hM.ob (ct_X7_begins hM) (qRo_m ok_X7_begins (by decide) (Nat.le_refl _) (Nat.le_refl _)) (Nat.le_of_ble_eq_true rfl) (fun I50 L50 R50 hv50 => ?_)
      obtain ⟨rfl, rfl, rfl⟩ := hv50
      refine wk_aload_n (i := 0) (q := 54) dX7_tell_53 rfl rfl rfl ?_
      refine wk_iconst (q := 55) dX7_tell_54 rfl ?_
      refine wk_cV1 (q := 58) dX7_tell_55 rfl vl_X7_319 ⟨_, _, rfl⟩ hM.ob (ct_X7_begins hM) (qRo_m ok_X7_begins (by decide) (Nat.le_refl _) (Nat.le_refl _)) (Nat.le_of_ble_eq_true rfl) (fun I55 L55 R55 hv55 => ?_)
      obtain ⟨rfl, rfl, rfl⟩ := hv55
      rw [up2_1, up_eq]
      refine wk_iload_n (i := 2) (q := 59) dX7_tell_58 rfl rfl rfl ?_
      refine wk_bipush (q := 61) dX7_tell_59 rfl (by decide +kernel) ?_
      refine wk_iadd (q := 62) dX7_tell_61 rfl ?_
      refine wk_iret dX7_tell_62 rfl ⟨Nat.le_refl _, Nat.le_refl _⟩ rfl ?_
      refine mp_trace h rfl ?_ ?_
      · unfold s_tell
        rw [if_neg (fun q => q hv2), if_pos hs23, h1]
      · unfold r_tell
        rw [if_neg (fun q => q hv2), if_pos hs23]
    · refine wk_aload_n (i := 0) (q := 64) dX7_tell_63 rfl rfl rfl ?_
      refine wk_iconst (q := 65) dX7_tell_64 rfl ?_
      refine wk_cV1 (q := 68) dX7_tell_65 rfl vl_X7_319 ⟨_, _, rfl⟩ hM.ob (ct_X7_begins hM) (qRo_m ok_X7_begins (by decide) (Nat.le_refl _) (Nat.le_refl _)) (Nat.le_of_ble_eq_true rfl) (fun I65 L65 R65 hv65 => ?_)
      obtain ⟨rfl, rfl, rfl⟩ := hv65
      refine wk_aload_n (i := 0) (q := 69) dX7_tell_68 rfl rfl rfl ?_
      refine wk_iconst (q := 70) dX7_tell_69 rfl ?_
      refine wk_cV1 (q := 73) dX7_tell_70 rfl vl_X7_319 ⟨_, _, rfl⟩ hM.ob (ct_X7_begins hM) (qRo_m ok_X7_begins (by decide) (Nat.le_refl _) (Nat.le_refl _)) (Nat.le_of_ble_eq_true rfl) (fun I70 L70 R70 hv70 => ?_)
      obtain ⟨rfl, rfl, rfl⟩ := hv70
      rw [up2_1, up_eq]
      refine wk_aload_n (i := 0) (q := 74) dX7_tell_73 rfl rfl rfl ?_
      refine wk_iconst (q := 75) dX7_tell_74 rfl ?_
      refine wk_cV1 (q := 78) dX7_tell_75 rfl vl_X7_319 ⟨_, _, rfl⟩ hM.ob (ct_X7_begins hM) (qRo_m ok_X7_begins (by decide) (Nat.le_refl _) (Nat.le_refl _)) (Nat.le_of_ble_eq_true rfl) (fun I75 L75 R75 hv75 => ?_)
      obtain ⟨rfl, rfl, rfl⟩ := hv75
      rw [up2_1, up_eq]
      refine wk_aload_n (i := 0) (q := 79) dX7_tell_78 rfl rfl rfl ?_
      refine wk_iconst (q := 80) dX7_tell_79 rfl ?_
      refine wk_cV1 (q := 83) dX7_tell_80 rfl vl_X7_319 ⟨_, _, rfl⟩ hM.ob (ct_X7_begins hM) (qRo_m ok_X7_begins (by decide) (Nat.le_refl _) (Nat.le_refl _)) (Nat.le_of_ble_eq_true rfl) (fun I80 L80 R80 hv80 => ?_)
      obtain ⟨rfl, rfl, rfl⟩ := hv80
      rw [up2_1, up_eq]
      refine wk_iconst (q := 84) dX7_tell_83 rfl ?_
      refine wk_iload_n (i := 2) (q := 85) dX7_tell_84 rfl rfl rfl ?_
      refine wk_imul (q := 86) dX7_tell_85 rfl ?_
      refine wk_bipush (q := 88) dX7_tell_86 rfl (by decide +kernel) ?_
      refine wk_iadd (q := 89) dX7_tell_88 rfl ?_
      refine wk_iret dX7_tell_89 rfl ⟨Nat.le_refl _, Nat.le_refl _⟩ rfl ?_
      refine mp_trace h rfl ?_ ?_
      · unfold s_tell
        rw [if_neg (fun q => q hv2), if_neg (by omega), if_pos hs23, h1]
      · unfold r_tell
        rw [if_neg (fun q => q hv2), if_neg (by omega), if_pos hs23]
    · refine wk_aload_n (i := 0) (q := 91) dX7_tell_90 rfl rfl rfl ?_
      refine wk_iconst (q := 92) dX7_tell_91 rfl ?_
      refine wk_cV1 (q := 95) dX7_tell_92 rfl vl_X7_319 ⟨_, _, rfl⟩ hM.ob (ct_X7_begins hM) (qRo_m ok_X7_begins (by decide) (Nat.le_refl _) (Nat.le_refl _)) (Nat.le_of_ble_eq_true rfl) (fun I92 L92 R92 hv92 => ?_)
      obtain ⟨rfl, rfl, rfl⟩ := hv92
      refine wk_iload_n (i := 2) (q := 96) dX7_tell_95 rfl rfl rfl ?_
      refine wk_iret dX7_tell_96 rfl ⟨Nat.le_refl _, Nat.le_refl _⟩ rfl ?_
      refine mp_trace h rfl ?_ ?_
      · unfold s_tell
        rw [if_neg (fun q => q hv2), if_neg hs23, if_neg hs23', h1]
      · unfold r_tell
        rw [if_neg (fun q => q hv2), if_neg hs23, if_neg hs23']
  · rw [e5] at hv2
    refine wk_if_ne (t := 10) (q := 8) dX7_tell_5 rfl rfl (by omega) (fun hq => absurd hq (by decide)) (fun _ => ?_)
    refine wk_iconst (q := 9) dX7_tell_8 rfl ?_
    refine wk_iret dX7_tell_9 rfl ⟨Nat.le_refl _, Nat.le_refl _⟩ rfl ?_
    refine mp_same h ?_ ?_
    · unfold s_tell
      rw [if_pos hv2]
    · unfold r_tell
      rw [if_pos hv2]
theorem om_greet {m : Nat} {V : VV} {g : Int} (hM : qMod E.2.2 n sh R m) (h : MI I m V) (hg : in32 g) :
    Ct l E 1 mX7_greet [.ref m, .int (zI g)] (n, sh, I, L, R) 0 0 (qZ n sh (mpZ m I L R (r_greet V g) (s_greet V g))) := by
  have hng := h.1.ng
  obtain ⟨e5, e6, ed, eg⟩ := h.2.2.2.2.2.1
  have h1 := h.2.2.1
  refine Ct.of (lo := [(0, _), (1, _)]) ok_X7_greet (Nat.le_of_ble_eq_true rfl) rfl ?_
  refine wk_aload_n (i := 0) (q := 1) dX7_greet_0 rfl rfl rfl ?_
  refine wk_iload_n (i := 1) (q := 2) dX7_greet_1 rfl rfl rfl ?_
  refine wk_cP1 (q := 5) dX7_greet_2 rfl vl_X7_184 ⟨_, _, rfl⟩ hM.ob (ct_X7_isGuest hM hg (by omega)) (qRo_m ok_X7_isGuest (by decide) (Nat.le_refl _) (Nat.le_refl _)) (Nat.le_of_ble_eq_true rfl) (fun v2 hv2 => ?_)
  rcases hv2 with ⟨rfl, hv2⟩ | ⟨rfl, hv2⟩
  · rw [e5] at hv2
    refine wk_if_ne (t := 10) (q := 8) dX7_greet_5 rfl rfl (by omega) (fun _ => ?_) (fun hq => absurd hq (by decide))
    refine wk_aload_n (i := 0) (q := 11) dX7_greet_10 rfl rfl rfl ?_
    refine wk_aload_n (i := 0) (q := 12) dX7_greet_11 rfl rfl rfl ?_
    refine wk_getR (fi := 9) (q := 15) dX7_greet_12 rfl fl_X7_25 rfl rfl hM.ob hM.r9 ?_
    refine wk_iload_n (i := 1) (q := 16) dX7_greet_15 rfl rfl rfl ?_
    refine wk_iald (q := 17) dX7_greet_16 rfl hM.s9 (by omega) ?_
    refine wk_iconst (q := 18) dX7_greet_17 rfl ?_
    obtain ⟨k1, k2, -⟩ := eg g hv2.1 hv2.2
    have k3 := (h.1.tab (by omega)).1.2.2.2.2.2 g hv2.1 hv2.2
    rw [k1]
    refine wk_icmp_ne (t := 25) (q := 21) dX7_greet_18 rfl rfl (by omega) (by omega) (fun hc18 => ?_) (fun hc18 => ?_)
    · refine wk_iconst (q := 26) dX7_greet_25 rfl ?_
      refine wk_cV1 (q := 29) dX7_greet_26 rfl vl_X7_319 ⟨_, _, rfl⟩ hM.ob (ct_X7_begins hM) (qRo_m ok_X7_begins (by decide) (Nat.le_refl _) (Nat.le_refl _)) (Nat.le_of_ble_eq_true rfl) (fun I26 L26 R26 hv26 => ?_)
      obtain ⟨rfl, rfl, rfl⟩ := hv26
      refine wk_aload_n (i := 0) (q := 30) dX7_greet_29 rfl rfl rfl ?_
      refine wk_getR (fi := 9) (q := 33) dX7_greet_30 rfl fl_X7_25 rfl rfl hM.ob hM.r9 ?_
      refine wk_iload_n (i := 1) (q := 34) dX7_greet_33 rfl rfl rfl ?_
      refine wk_iald (q := 35) dX7_greet_34 rfl hM.s9 (by omega) ?_
      refine wk_iconst (q := 36) dX7_greet_35 rfl ?_
      rw [up_na _ _ _ _ (by omega), k1]
      refine wk_icmp_ne (t := 44) (q := 39) dX7_greet_36 rfl rfl (by omega) (by omega) (fun hc36 => ?_) (fun hc36 => ?_)
      · refine wk_iload_n (i := 1) (q := 45) dX7_greet_44 rfl rfl rfl ?_
        refine wk_iret dX7_greet_45 rfl ⟨Nat.le_refl _, Nat.le_refl _⟩ rfl ?_
        first
          | (exfalso; omega)
          | (refine mp_trace h rfl ?_ ?_
             · unfold s_greet
               first
                 | rw [if_neg (fun q => q hv2), if_pos hc18, h1]
                 | rw [if_neg (fun q => q hv2), if_neg hc18, h1]
             · unfold r_greet
               first
                 | rw [if_neg (fun q => q hv2), if_pos hc18]
                 | rw [if_neg (fun q => q hv2), if_neg hc18])
      · refine wk_bipush (q := 41) dX7_greet_39 rfl (by decide +kernel) ?_
        refine wk_goto (t := 45) dX7_greet_41 rfl ?_
        refine wk_iret dX7_greet_45 rfl ⟨Nat.le_refl _, Nat.le_refl _⟩ rfl ?_
        first
          | (exfalso; omega)
          | (refine mp_trace h rfl ?_ ?_
             · unfold s_greet
               first
                 | rw [if_neg (fun q => q hv2), if_pos hc18, h1]
                 | rw [if_neg (fun q => q hv2), if_neg hc18, h1]
             · unfold r_greet
               first
                 | rw [if_neg (fun q => q hv2), if_pos hc18]
                 | rw [if_neg (fun q => q hv2), if_neg hc18])
    · refine wk_iconst (q := 22) dX7_greet_21 rfl ?_
      refine wk_goto (t := 26) dX7_greet_22 rfl ?_
      refine wk_cV1 (q := 29) dX7_greet_26 rfl vl_X7_319 ⟨_, _, rfl⟩ hM.ob (ct_X7_begins hM) (qRo_m ok_X7_begins (by decide) (Nat.le_refl _) (Nat.le_refl _)) (Nat.le_of_ble_eq_true rfl) (fun I26 L26 R26 hv26 => ?_)
      obtain ⟨rfl, rfl, rfl⟩ := hv26
      refine wk_aload_n (i := 0) (q := 30) dX7_greet_29 rfl rfl rfl ?_
      refine wk_getR (fi := 9) (q := 33) dX7_greet_30 rfl fl_X7_25 rfl rfl hM.ob hM.r9 ?_
      refine wk_iload_n (i := 1) (q := 34) dX7_greet_33 rfl rfl rfl ?_
      refine wk_iald (q := 35) dX7_greet_34 rfl hM.s9 (by omega) ?_
      refine wk_iconst (q := 36) dX7_greet_35 rfl ?_
      rw [up_na _ _ _ _ (by omega), k1]
      refine wk_icmp_ne (t := 44) (q := 39) dX7_greet_36 rfl rfl (by omega) (by omega) (fun hc36 => ?_) (fun hc36 => ?_)
      · refine wk_iload_n (i := 1) (q := 45) dX7_greet_44 rfl rfl rfl ?_
        refine wk_iret dX7_greet_45 rfl ⟨Nat.le_refl _, Nat.le_refl _⟩ rfl ?_
        first
          | (exfalso; omega)
          | (refine mp_trace h rfl ?_ ?_
             · unfold s_greet
               first
                 | rw [if_neg (fun q => q hv2), if_pos hc18, h1]
                 | rw [if_neg (fun q => q hv2), if_neg hc18, h1]
             · unfold r_greet
               first
                 | rw [if_neg (fun q => q hv2), if_pos hc18]
                 | rw [if_neg (fun q => q hv2), if_neg hc18])
      · refine wk_bipush (q := 41) dX7_greet_39 rfl (by decide +kernel) ?_
        refine wk_goto (t := 45) dX7_greet_41 rfl ?_
        refine wk_iret dX7_greet_45 rfl ⟨Nat.le_refl _, Nat.le_refl _⟩ rfl ?_
        first
          | (exfalso; omega)
          | (refine mp_trace h rfl ?_ ?_
             · unfold s_greet
               first
                 | rw [if_neg (fun q => q hv2), if_pos hc18, h1]
                 | rw [if_neg (fun q => q hv2), if_neg hc18, h1]
             · unfold r_greet
               first
                 | rw [if_neg (fun q => q hv2), if_pos hc18]
                 | rw [if_neg (fun q => q hv2), if_neg hc18])
  · rw [e5] at hv2
    refine wk_if_ne (t := 10) (q := 8) dX7_greet_5 rfl rfl (by omega) (fun hq => absurd hq (by decide)) (fun _ => ?_)
    refine wk_iconst (q := 9) dX7_greet_8 rfl ?_
    refine wk_iret dX7_greet_9 rfl ⟨Nat.le_refl _, Nat.le_refl _⟩ rfl ?_
    refine mp_same h ?_ ?_
    · unfold s_greet
      rw [if_pos hv2]
    · unfold r_greet
      rw [if_pos hv2]
theorem om_as {m : Nat} {V : VV} {g w : Int} (hM : qMod E.2.2 n sh R m) (h : MI I m V) (hg : in32 g) (hw : in32 w) :
    Ct l E 1 mX7_as [.ref m, .int (zI g), .int (zI w)] (n, sh, I, L, R) 0 0 (qZ n sh (mpZ m I L R (r_as V g w) (s_as V g w))) := by
  have hng := h.1.ng
  obtain ⟨e5, e6, ed, eg⟩ := h.2.2.2.2.2.1
  have e5' : up I m 0 0 m 5 = V.T.ng := by rw [up_off (by omega)]; exact e5
  refine Ct.of (lo := [(0, _), (1, _), (2, _)]) ok_X7_as (Nat.le_of_ble_eq_true rfl) rfl ?_
  refine wk_aload_n (i := 0) (q := 1) dX7_as_0 rfl rfl rfl ?_
  refine wk_iconst (q := 2) dX7_as_1 rfl ?_
  refine wk_putI (fi := 0) (q := 5) dX7_as_2 rfl fl_X7_115 fw_7_0 rfl rfl hM.ob ?_
  refine wk_aload_n (i := 0) (q := 6) dX7_as_5 rfl rfl rfl ?_
  refine wk_iload_n (i := 1) (q := 7) dX7_as_6 rfl rfl rfl ?_
  refine wk_cP1 (q := 10) dX7_as_7 rfl vl_X7_184 ⟨_, _, rfl⟩ hM.ob (ct_X7_isGuest hM hg (by omega)) (qRo_m ok_X7_isGuest (by decide) (Nat.le_refl _) (Nat.le_refl _)) (Nat.le_of_ble_eq_true rfl) (fun v7 hv7 => ?_)
  rcases hv7 with ⟨rfl, hv7⟩ | ⟨rfl, hv7⟩
  · rw [e5'] at hv7
    refine wk_if_ne (t := 15) (q := 13) dX7_as_10 rfl rfl (by omega) (fun _ => ?_) (fun hq => absurd hq (by decide))
    refine wk_iload_n (i := 2) (q := 16) dX7_as_15 rfl rfl rfl ?_
    refine wk_iconst (q := 17) dX7_as_16 rfl ?_
    refine wk_iconst (q := 18) dX7_as_17 rfl ?_
    refine wk_sP3 (q := 21) dX7_as_18 rfl sl_X7_121 (ct_X7_within hw (by omega) (by omega)) (qRo_m ok_X7_within (by decide) (Nat.le_refl _) (Nat.le_refl _)) (Nat.le_of_ble_eq_true rfl) (fun v18 hv18 => ?_)
    rcases hv18 with ⟨rfl, hv18⟩ | ⟨rfl, hv18⟩
    · refine wk_if_ne (t := 27) (q := 24) dX7_as_21 rfl rfl (by omega) (fun _ => ?_) (fun hq => absurd hq (by decide))
      refine wk_aload_n (i := 0) (q := 28) dX7_as_27 rfl rfl rfl ?_
      refine wk_getR (fi := 9) (q := 31) dX7_as_28 rfl fl_X7_25 rfl rfl hM.ob hM.r9 ?_
      refine wk_iload_n (i := 1) (q := 32) dX7_as_31 rfl rfl rfl ?_
      refine wk_iald (q := 33) dX7_as_32 rfl hM.s9 (by omega) ?_
      refine wk_iload_n (i := 2) (q := 34) dX7_as_33 rfl rfl rfl ?_
      obtain ⟨k1, k2, -⟩ := eg g hv7.1 hv7.2
      have k3 := (h.1.tab (by omega)).1.2.2.2.2.2 g hv7.1 hv7.2
      rw [up_na _ _ _ _ (by omega), k1]
      refine wk_icmp_lt (t := 41) (q := 37) dX7_as_34 rfl rfl (by omega) (by omega) (fun hc34 => ?_) (fun hc34 => ?_)
      · refine wk_aload_n (i := 0) (q := 42) dX7_as_41 rfl rfl rfl ?_
        refine wk_iconst (q := 43) dX7_as_42 rfl ?_
        refine wk_cZ1 (q := 46) dX7_as_43 rfl vl_X7_145 ⟨_, _, rfl⟩ hM.ob (ct_X7_fails hM) (qRo_m ok_X7_fails (by decide) (Nat.le_refl _) (Nat.le_refl _)) (Nat.le_of_ble_eq_true rfl) (fun v43 I43 L43 R43 hv43 => ?_)
        obtain ⟨rfl, rfl, rfl, rfl⟩ := hv43
        rw [up2_0]
        refine wk_iret dX7_as_46 rfl ⟨Nat.le_refl _, Nat.le_refl _⟩ rfl ?_
        refine mp_fault h rfl ?_ ?_
        · unfold s_as
          first
            | rw [if_pos hv7]
            | rw [if_neg (fun q => q hv7), if_pos (by omega)]
            | rw [if_neg (fun q => q hv7), if_neg (by omega), if_pos (by omega)]
            | rw [if_neg (fun q => q hv7), if_neg (by omega), if_neg (by omega)]
        · unfold r_as
          first
            | rw [if_pos hv7]
            | rw [if_neg (fun q => q hv7), if_pos (by omega)]
            | (rw [if_neg (fun q => q hv7), if_neg (by omega), if_pos (by omega)]; omega)
            | rw [if_neg (fun q => q hv7), if_neg (by omega), if_neg (by omega)]
      · refine wk_iconst (q := 38) dX7_as_37 rfl ?_
        refine wk_goto (t := 46) dX7_as_38 rfl ?_
        refine wk_iret dX7_as_46 rfl ⟨Nat.le_refl _, Nat.le_refl _⟩ rfl ?_
        refine mp_fault h rfl ?_ ?_
        · unfold s_as
          first
            | rw [if_pos hv7]
            | rw [if_neg (fun q => q hv7), if_pos (by omega)]
            | rw [if_neg (fun q => q hv7), if_neg (by omega), if_pos (by omega)]
            | rw [if_neg (fun q => q hv7), if_neg (by omega), if_neg (by omega)]
        · unfold r_as
          first
            | rw [if_pos hv7]
            | rw [if_neg (fun q => q hv7), if_pos (by omega)]
            | (rw [if_neg (fun q => q hv7), if_neg (by omega), if_pos (by omega)]; omega)
            | rw [if_neg (fun q => q hv7), if_neg (by omega), if_neg (by omega)]
    · refine wk_if_ne (t := 27) (q := 24) dX7_as_21 rfl rfl (by omega) (fun hq => absurd hq (by decide)) (fun _ => ?_)
      refine wk_bipush (q := 26) dX7_as_24 rfl (by decide +kernel) ?_
      refine wk_iret dX7_as_26 rfl ⟨Nat.le_refl _, Nat.le_refl _⟩ rfl ?_
      refine mp_fault h rfl ?_ ?_
      · unfold s_as
        first
          | rw [if_pos hv7]
          | rw [if_neg (fun q => q hv7), if_pos (by omega)]
          | rw [if_neg (fun q => q hv7), if_neg (by omega), if_pos (by omega)]
          | rw [if_neg (fun q => q hv7), if_neg (by omega), if_neg (by omega)]
      · unfold r_as
        first
          | rw [if_pos hv7]
          | rw [if_neg (fun q => q hv7), if_pos (by omega)]
          | (rw [if_neg (fun q => q hv7), if_neg (by omega), if_pos (by omega)]; omega)
          | rw [if_neg (fun q => q hv7), if_neg (by omega), if_neg (by omega)]
  · rw [e5'] at hv7
    refine wk_if_ne (t := 15) (q := 13) dX7_as_10 rfl rfl (by omega) (fun hq => absurd hq (by decide)) (fun _ => ?_)
    refine wk_iconst (q := 14) dX7_as_13 rfl ?_
    refine wk_iret dX7_as_14 rfl ⟨Nat.le_refl _, Nat.le_refl _⟩ rfl ?_
    refine mp_fault h rfl ?_ ?_
    · unfold s_as
      first
        | rw [if_pos hv7]
        | rw [if_neg (fun q => q hv7), if_pos (by omega)]
        | rw [if_neg (fun q => q hv7), if_neg (by omega), if_pos (by omega)]
        | rw [if_neg (fun q => q hv7), if_neg (by omega), if_neg (by omega)]
    · unfold r_as
      first
        | rw [if_pos hv7]
        | rw [if_neg (fun q => q hv7), if_pos (by omega)]
        | (rw [if_neg (fun q => q hv7), if_neg (by omega), if_pos (by omega)]; omega)
        | rw [if_neg (fun q => q hv7), if_neg (by omega), if_neg (by omega)]
end MOD4
