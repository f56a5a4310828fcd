/-! THE LAW's change -/
theorem CI.okk {b n : Nat} {sh : qSh} {x : Nat} {I L : qI} {R : qR} {V : VV} (h : CI b n sh x I L R V) : V.ok := by
  obtain ⟨o, d, u1, u2, u3, h0⟩ := h
  exact h0.2.2.1
section CHANGE
variable {l : Launch} {E : qEv} {n : Nat} {sh : qSh} {I : qI}
theorem ch_c {x : Nat} {V0 : VV} {v v5 v6 g h : Int} {C : CC} {I1 L1 : qI} {R1 : qR} (cT : isC E.2.2 n sh (x + 167) 0 51) (cW : isC E.2.2 n sh (x + 168) 0 42) (cU : isC E.2.2 n sh (x + 169) 0 42) (hp : 0 < V0.T.ng) (hC : CI E.2.2 n sh x I1 L1 R1 (V0.setC C)) (hA : tyA I1 (x + 167) (x + 168) (x + 169) V0.T C V0.la) (FR : ∀ q i, (q < x ∨ x + 170 ≤ q) → I1 q i = I q i) (hg : 0 ≤ g ∧ g < V0.T.ng) :
    Wk l E (qmo E 2 n 0 0 (qZ n sh (fun r I' L' R' => r = 1 ∧ ∃ C', CI E.2.2 n sh x I' L' R' (V0.setC C') ∧ tyA I' (x + 167) (x + 168) (x + 169) V0.T C' V0.la ∧ ∀ q i, (q < x ∨ x + 170 ≤ q) → I' q i = I q i))) mL_change 0 0 179 [(0, .ref x), (1, .int (zI v)), (2, .ref (x + 167)), (3, .ref (x + 168)), (4, .ref (x + 169)), (5, .int (zI v5)), (6, .int (zI v6)), (7, .int (zI g)), (8, .int (zI h))] [] (n, sh, I1, L1, R1) := by
  have hO := hC.isX
  obtain ⟨hT, hN, hLA⟩ := hC.okk.tab hp
  have hTe : V0.T.ok := hT
  have hCe : C.ok V0.T := hN.1
  obtain ⟨a0, a1, a2, a3, a4, a5, a6⟩ := hA
  have hn7 := hTe.2.1
  have hnd := hTe.2.2.2.1
  have hnd0 := hTe.2.2.1
  refine wk_iload_n (i := 1) (q := 180) dL_change_179 rfl rfl rfl ?_
  refine wk_bipush (q := 182) dL_change_180 rfl (by decide +kernel) ?_
  refine wk_ishr (q := 183) dL_change_182 rfl ?_
  refine wk_aload_n (i := 2) (q := 184) dL_change_183 rfl rfl rfl ?_
  refine wk_iconst (q := 185) dL_change_184 rfl ?_
  refine wk_iald (q := 186) dL_change_185 rfl cT (by omega) ?_
  rw [a1]
  refine wk_sP2 (q := 189) dL_change_186 rfl sl_L_15 (ct_some ⟨by omega, by omega⟩) (qRo_m ok_L_some (by decide) (Nat.le_refl _) (Nat.le_refl _)) (Nat.le_of_ble_eq_true rfl) (fun v186 hv186 => ?_)
  refine wk_istore (i := 9) (lo' := [(0, _), (1, _), (2, _), (3, _), (4, _), (5, _), (6, _), (7, _), (8, _), (9, _)]) (q := 191) dL_change_189 rfl (by decide) rfl ?_
  refine wk_iload_n (i := 1) (q := 192) dL_change_191 rfl rfl rfl ?_
  refine wk_bipush (q := 194) dL_change_192 rfl (by decide +kernel) ?_
  refine wk_ishr (q := 195) dL_change_194 rfl ?_
  refine wk_bipush (q := 197) dL_change_195 rfl (by decide +kernel) ?_
  refine wk_sP2 (q := 200) dL_change_197 rfl sl_L_15 (ct_some ⟨by omega, by omega⟩) (qRo_m ok_L_some (by decide) (Nat.le_refl _) (Nat.le_refl _)) (Nat.le_of_ble_eq_true rfl) (fun v197 hv197 => ?_)
  refine wk_istore (i := 10) (lo' := [(0, _), (1, _), (2, _), (3, _), (4, _), (5, _), (6, _), (7, _), (8, _), (9, _), (10, _)]) (q := 202) dL_change_200 rfl (by decide) rfl ?_
  refine wk_aload_n (i := 0) (q := 203) dL_change_202 rfl rfl rfl ?_
  refine wk_iload (i := 7) (q := 205) dL_change_203 rfl rfl ?_
  refine wk_iload (i := 9) (q := 207) dL_change_205 rfl rfl ?_
  refine wk_iload (i := 10) (q := 209) dL_change_207 rfl rfl ?_
  refine wk_cZ3 (q := 212) dL_change_209 rfl vl_L_38 ⟨_, _, rfl⟩ hO.ob (oc_say hC (by omega) (by omega) (by omega)) (qRo_m ok_X6_say (by decide) (Nat.le_refl _) (Nat.le_refl _)) (Nat.le_of_ble_eq_true rfl) (fun v209 I209 L209 R209 hv209 => ?_)
  obtain ⟨ea, hC1, fI, fR⟩ := hv209
  have tw := (hTe.2.2.2.2.2 g hg.1 hg.2).2.2.2.2.2.2 v186 hv186.1 hv186.2
  have ts := (hCe.2.2.2.2.2.2.2.2.2.2 g hg.1 hg.2).2.2 v186 hv186.1 hv186.2
  have k6 := a6 g v186 hg.1 hg.2 hv186.1 hv186.2
  have eW : I209 (x + 168) (6 * g + v186) = V0.T.wo g v186 := (fI _ _ (by omega)).trans k6.1
  have eU : I209 (x + 169) (6 * g + v186) = C.sa g v186 := (fI _ _ (by omega)).trans k6.2
  have er : (V0.T.wo g v186 = -1 ∧ v209 = -3) ∨ (V0.T.wo g v186 ≠ -1 ∧ v209 = C.sa g v186) := by
    rw [ea]
    unfold r_say
    rw [if_neg (fun z => z ⟨hg, hv186.1, hv186.2⟩), if_neg (by omega)]
    by_cases z : V0.T.wo g v186 = -1
    · exact Or.inl ⟨z, if_pos z⟩
    · exact Or.inr ⟨z, if_neg z⟩
  have fin : ∀ w : Int, ((V0.T.wo g v186 = -1 ∧ w = -1) ∨ (V0.T.wo g v186 ≠ -1 ∧ w = v197)) → ∃ C', CI E.2.2 n sh x (up I209 (x + 169) (6 * g + v186) w) L209 R209 (V0.setC C') ∧ tyA (up I209 (x + 169) (6 * g + v186) w) (x + 167) (x + 168) (x + 169) V0.T C' V0.la ∧ ∀ q i, (q < x ∨ x + 170 ≤ q) → up I209 (x + 169) (6 * g + v186) w q i = I q i := by
    intro w hw
    have hC2 := hC1.frm (I' := up I209 (x + 169) (6 * g + v186) w) (fun c i z1 z2 => up_na _ _ _ _ (by omega))
    have b0 : ∀ q i, q ≠ x + 169 → x + 167 ≤ q → up I209 (x + 169) (6 * g + v186) w q i = I1 q i := fun q i z1 z2 => (up_na _ _ _ _ z1).trans (fI q i (by omega))
    have es : s_say (V0.setC C) g v186 v197 = if V0.T.wo g v186 = -1 then V0.setC C else V0.setC (C.setSa (u2 C.sa g v186 v197)) := by
      unfold s_say
      rw [if_neg (fun z => z ⟨hg, hv186.1, hv186.2⟩), if_neg (by omega)]
      rfl
    rw [es] at hC2
    have ff : ∀ q i, (q < x ∨ x + 170 ≤ q) → up I209 (x + 169) (6 * g + v186) w q i = I q i := fun q i z => (up_na _ _ _ _ (by omega)).trans ((fI q i (by omega)).trans (FR q i z))
    rcases hw with ⟨w1, w2⟩ | ⟨w1, w2⟩
    · rw [if_pos w1] at hC2
      refine ⟨C, hC2, ⟨(b0 _ _ (by omega) (by omega)).trans a0, (b0 _ _ (by omega) (by omega)).trans a1, (b0 _ _ (by omega) (by omega)).trans a2, (b0 _ _ (by omega) (by omega)).trans a3, fun d d0 d1 => ?_, fun q q0 q1 => ?_, fun q d q0 q1 d0 d1 => ?_⟩, ff⟩
      · rw [b0 _ _ (by omega) (by omega), b0 _ _ (by omega) (by omega)]
        exact a4 d d0 d1
      · rw [b0 _ _ (by omega) (by omega), b0 _ _ (by omega) (by omega), b0 _ _ (by omega) (by omega), b0 _ _ (by omega) (by omega), b0 _ _ (by omega) (by omega)]
        exact a5 q q0 q1
      · refine ⟨(b0 _ _ (by omega) (by omega)).trans (a6 q d q0 q1 d0 d1).1, ?_⟩
        by_cases z : q = g ∧ d = v186
        · rw [z.1, z.2, up_eq]
          omega
        · rw [up_o2 (by omega), fI _ _ (by omega)]
          exact (a6 q d q0 q1 d0 d1).2
    · rw [if_neg w1] at hC2
      refine ⟨_, hC2, ⟨(b0 _ _ (by omega) (by omega)).trans a0, (b0 _ _ (by omega) (by omega)).trans a1, (b0 _ _ (by omega) (by omega)).trans a2, (b0 _ _ (by omega) (by omega)).trans a3, fun d d0 d1 => ?_, fun q q0 q1 => ?_, fun q d q0 q1 d0 d1 => ?_⟩, ff⟩
      · rw [b0 _ _ (by omega) (by omega), b0 _ _ (by omega) (by omega)]
        exact a4 d d0 d1
      · rw [b0 _ _ (by omega) (by omega), b0 _ _ (by omega) (by omega), b0 _ _ (by omega) (by omega), b0 _ _ (by omega) (by omega), b0 _ _ (by omega) (by omega)]
        exact a5 q q0 q1
      · refine ⟨(b0 _ _ (by omega) (by omega)).trans (a6 q d q0 q1 d0 d1).1, ?_⟩
        show _ = u2 C.sa g v186 v197 q d
        by_cases z : q = g ∧ d = v186
        · rw [z.1, z.2, up_eq, u2_eq]
          exact w2
        · rw [up_o2 (by omega), fI _ _ (by omega), u2_ne (by omega)]
          exact (a6 q d q0 q1 d0 d1).2
  refine wk_aload_n (i := 3) (q := 213) dL_change_212 rfl rfl rfl ?_
  refine wk_bipush (q := 215) dL_change_213 rfl (by decide +kernel) ?_
  refine wk_iload (i := 7) (q := 217) dL_change_215 rfl rfl ?_
  refine wk_imul (q := 218) dL_change_217 rfl ?_
  refine wk_iload (i := 9) (q := 220) dL_change_218 rfl rfl ?_
  refine wk_iadd (q := 221) dL_change_220 rfl ?_
  refine wk_iald (q := 222) dL_change_221 rfl cW (by omega) ?_
  rw [eW]
  refine wk_if_ge (t := 230) (q := 225) dL_change_222 rfl rfl (by omega) (fun hc222 => ?_) (fun hc222 => ?_)
  · refine wk_aload (i := 4) (q := 232) dL_change_230 rfl rfl ?_
    refine wk_bipush (q := 234) dL_change_232 rfl (by decide +kernel) ?_
    refine wk_iload (i := 7) (q := 236) dL_change_234 rfl rfl ?_
    refine wk_imul (q := 237) dL_change_236 rfl ?_
    refine wk_iload (i := 9) (q := 239) dL_change_237 rfl rfl ?_
    refine wk_iadd (q := 240) dL_change_239 rfl ?_
    refine wk_iald (q := 241) dL_change_240 rfl cU (by omega) ?_
    try rw [eU]
    refine wk_icmp_eq (t := 246) (q := 244) dL_change_241 rfl rfl (by omega) (by omega) (fun hc241 => ?_) (fun hc241 => ?_)
    · refine wk_aload (i := 4) (q := 248) dL_change_246 rfl rfl ?_
      refine wk_bipush (q := 250) dL_change_248 rfl (by decide +kernel) ?_
      refine wk_iload (i := 7) (q := 252) dL_change_250 rfl rfl ?_
      refine wk_imul (q := 253) dL_change_252 rfl ?_
      refine wk_iload (i := 9) (q := 255) dL_change_253 rfl rfl ?_
      refine wk_iadd (q := 256) dL_change_255 rfl ?_
      refine wk_aload_n (i := 3) (q := 257) dL_change_256 rfl rfl rfl ?_
      refine wk_bipush (q := 259) dL_change_257 rfl (by decide +kernel) ?_
      refine wk_iload (i := 7) (q := 261) dL_change_259 rfl rfl ?_
      refine wk_imul (q := 262) dL_change_261 rfl ?_
      refine wk_iload (i := 9) (q := 264) dL_change_262 rfl rfl ?_
      refine wk_iadd (q := 265) dL_change_264 rfl ?_
      refine wk_iald (q := 266) dL_change_265 rfl cW (by omega) ?_
      rw [eW]
      refine wk_if_ge (t := 273) (q := 269) dL_change_266 rfl rfl (by omega) (fun hc266 => ?_) (fun hc266 => ?_)
      · refine wk_iload (i := 10) (q := 275) dL_change_273 rfl rfl ?_
        refine wk_iast (q := 276) dL_change_275 rfl cU (by omega) ?_
        refine wk_iconst (q := 277) dL_change_276 rfl ?_
        refine wk_zret dL_change_277 rfl (by omega) ⟨Nat.le_refl _, Nat.le_refl _⟩ rfl ?_
        first
        | exact ⟨_, _, _, _, rfl, rfl, rfl, fin _ (Or.inl ⟨by omega, rfl⟩)⟩
        | exact ⟨_, _, _, _, rfl, rfl, rfl, fin _ (Or.inr ⟨by omega, rfl⟩)⟩
      · refine wk_iconst (q := 270) dL_change_269 rfl ?_
        refine wk_goto (t := 275) dL_change_270 rfl ?_
        refine wk_iast (q := 276) dL_change_275 rfl cU (by omega) ?_
        refine wk_iconst (q := 277) dL_change_276 rfl ?_
        refine wk_zret dL_change_277 rfl (by omega) ⟨Nat.le_refl _, Nat.le_refl _⟩ rfl ?_
        first
        | exact ⟨_, _, _, _, rfl, rfl, rfl, fin _ (Or.inl ⟨by omega, rfl⟩)⟩
        | exact ⟨_, _, _, _, rfl, rfl, rfl, fin _ (Or.inr ⟨by omega, rfl⟩)⟩
    · omega
  · refine wk_bipush (q := 227) dL_change_225 rfl (by decide +kernel) ?_
    refine wk_goto (t := 241) dL_change_227 rfl ?_
    try rw [eU]
    refine wk_icmp_eq (t := 246) (q := 244) dL_change_241 rfl rfl (by omega) (by omega) (fun hc241 => ?_) (fun hc241 => ?_)
    · refine wk_aload (i := 4) (q := 248) dL_change_246 rfl rfl ?_
      refine wk_bipush (q := 250) dL_change_248 rfl (by decide +kernel) ?_
      refine wk_iload (i := 7) (q := 252) dL_change_250 rfl rfl ?_
      refine wk_imul (q := 253) dL_change_252 rfl ?_
      refine wk_iload (i := 9) (q := 255) dL_change_253 rfl rfl ?_
      refine wk_iadd (q := 256) dL_change_255 rfl ?_
      refine wk_aload_n (i := 3) (q := 257) dL_change_256 rfl rfl rfl ?_
      refine wk_bipush (q := 259) dL_change_257 rfl (by decide +kernel) ?_
      refine wk_iload (i := 7) (q := 261) dL_change_259 rfl rfl ?_
      refine wk_imul (q := 262) dL_change_261 rfl ?_
      refine wk_iload (i := 9) (q := 264) dL_change_262 rfl rfl ?_
      refine wk_iadd (q := 265) dL_change_264 rfl ?_
      refine wk_iald (q := 266) dL_change_265 rfl cW (by omega) ?_
      rw [eW]
      refine wk_if_ge (t := 273) (q := 269) dL_change_266 rfl rfl (by omega) (fun hc266 => ?_) (fun hc266 => ?_)
      · refine wk_iload (i := 10) (q := 275) dL_change_273 rfl rfl ?_
        refine wk_iast (q := 276) dL_change_275 rfl cU (by omega) ?_
        refine wk_iconst (q := 277) dL_change_276 rfl ?_
        refine wk_zret dL_change_277 rfl (by omega) ⟨Nat.le_refl _, Nat.le_refl _⟩ rfl ?_
        first
        | exact ⟨_, _, _, _, rfl, rfl, rfl, fin _ (Or.inl ⟨by omega, rfl⟩)⟩
        | exact ⟨_, _, _, _, rfl, rfl, rfl, fin _ (Or.inr ⟨by omega, rfl⟩)⟩
      · refine wk_iconst (q := 270) dL_change_269 rfl ?_
        refine wk_goto (t := 275) dL_change_270 rfl ?_
        refine wk_iast (q := 276) dL_change_275 rfl cU (by omega) ?_
        refine wk_iconst (q := 277) dL_change_276 rfl ?_
        refine wk_zret dL_change_277 rfl (by omega) ⟨Nat.le_refl _, Nat.le_refl _⟩ rfl ?_
        first
        | exact ⟨_, _, _, _, rfl, rfl, rfl, fin _ (Or.inl ⟨by omega, rfl⟩)⟩
        | exact ⟨_, _, _, _, rfl, rfl, rfl, fin _ (Or.inr ⟨by omega, rfl⟩)⟩
    · omega
theorem ch_b {x : Nat} {V0 : VV} {v v5 v6 g h : Int} {C : CC} (cT : isC E.2.2 n sh (x + 167) 0 51) (cW : isC E.2.2 n sh (x + 168) 0 42) (cU : isC E.2.2 n sh (x + 169) 0 42) (hp : 0 < V0.T.ng) (hp7 : V0.T.ng ≤ 7) (hg : 0 ≤ g ∧ g < V0.T.ng) (hh : 0 ≤ h ∧ h < V0.T.ng) {odF : Int → Int} (hF : ∀ s, 0 ≤ s → s < V0.T.ng → odF s = (fun s => if C.od s = g then h else if C.od s = h then g else C.od s) s) (hod : ∀ s, 0 ≤ s → s < V0.T.ng → 0 ≤ C.od s ∧ C.od s < V0.T.ng) : ∀ k : Nat, k ≤ V0.T.ng.toNat → ∀ (I1 L1 : qI) (R1 : qR) (od1 : Int → Int), CI E.2.2 n sh x I1 L1 R1 (V0.setC (C.setOd odF)) → tyA I1 (x + 167) (x + 168) (x + 169) V0.T (C.setOd od1) V0.la → (∀ s : Int, 0 ≤ s → s < k → od1 s = odF s) → (∀ s : Int, k ≤ s → s < V0.T.ng → od1 s = C.od s) → (∀ q i, (q < x ∨ x + 170 ≤ q) → I1 q i = I q i) →
    Wk l E (qmo E 2 n 0 0 (qZ n sh (fun r I' L' R' => r = 1 ∧ ∃ C', CI E.2.2 n sh x I' L' R' (V0.setC C') ∧ tyA I' (x + 167) (x + 168) (x + 169) V0.T C' V0.la ∧ ∀ q i, (q < x ∨ x + 170 ≤ q) → I' q i = I q i))) mL_change 0 0 117 [(0, .ref x), (1, .int (zI v)), (2, .ref (x + 167)), (3, .ref (x + 168)), (4, .ref (x + 169)), (5, .int (zI v5)), (6, .int (zI v6)), (7, .int (zI g)), (8, .int (zI h)), (9, .int (zI k))] [] (n, sh, I1, L1, R1) := by
  refine up_ind V0.T.ng.toNat ?_ ?_
  · intro I1 L1 R1 od1 hC hA h1 h2 FR
    have hO := hC.isX
    have a0 := hA.1
    have hA' : tyA I1 (x + 167) (x + 168) (x + 169) V0.T (C.setOd odF) V0.la := by
      obtain ⟨b0, b1, b2, b3, b4, b5, b6⟩ := hA
      refine ⟨b0, b1, b2, b3, b4, fun q q0 q1 => ?_, b6⟩
      obtain ⟨c1, c2, c3, c4, c5⟩ := b5 q q0 q1
      exact ⟨c1, c2, c3, c4.trans (h1 q q0 (by omega)), c5⟩
    have w := ch_c (l := l) (v := v) (v5 := v5) (v6 := v6) (g := g) (h := h) cT cW cU hp hC hA' FR hg
    refine wk_iload (i := 9) (q := 119) dL_change_117 rfl rfl ?_
    refine wk_aload_n (i := 2) (q := 120) dL_change_119 rfl rfl rfl ?_
    refine wk_iconst (q := 121) dL_change_120 rfl ?_
    refine wk_iald (q := 122) dL_change_121 rfl cT (by omega) ?_
    refine wk_icmp_ge (t := 179) (q := 125) dL_change_122 rfl rfl (by omega) (by omega) (fun hc122 => ?_) (fun hc122 => ?_)
    · refine wk_del (i := 9) (lo' := [(0, _), (1, _), (2, _), (3, _), (4, _), (5, _), (6, _), (7, _), (8, _)]) rfl ?_
      exact w
    · omega
  · intro k hk ih I1 L1 R1 od1 hC hA h1 h2 FR
    have hO := hC.isX
    have hA0 := hA
    obtain ⟨b0, b1, b2, b3, b4, b5, b6⟩ := hA
    have e1 : I1 (x + 167) (37 + (k : Int)) = C.od k := (b5 k (by omega) (by omega)).2.2.2.1.trans (h2 k (by omega) (by omega))
    have hk1 := hod k (by omega) (by omega)
    have st : ∀ w : Int, w = odF k → Wk l E (qmo E 2 n 0 0 (qZ n sh (fun r I' L' R' => r = 1 ∧ ∃ C', CI E.2.2 n sh x I' L' R' (V0.setC C') ∧ tyA I' (x + 167) (x + 168) (x + 169) V0.T C' V0.la ∧ ∀ q i, (q < x ∨ x + 170 ≤ q) → I' q i = I q i))) mL_change 0 0 172 [(0, .ref x), (1, .int (zI v)), (2, .ref (x + 167)), (3, .ref (x + 168)), (4, .ref (x + 169)), (5, .int (zI v5)), (6, .int (zI v6)), (7, .int (zI g)), (8, .int (zI h)), (9, .int (zI k))] [.int (zI w), .int (zI (37 + k)), .ref (x + 167)] (n, sh, I1, L1, R1) := by
      intro w hw
      have ih' := ih (up I1 (x + 167) (37 + k) w) L1 R1 (u1 od1 k w) (hC.frm (fun c i z1 z2 => up_na _ _ _ _ (by omega))) ⟨(up_ni _ _ (by omega)).trans b0, (up_ni _ _ (by omega)).trans b1, (up_ni _ _ (by omega)).trans b2, (up_ni _ _ (by omega)).trans b3, fun d d0 d1 => by
          rw [up_o2 (by have := (hC.okk.tab hp).1.2.2.2.1; have e9 : (V0.setC (C.setOd odF)).T = V0.T := rfl; rw [e9] at this; omega), up_o2 (by have := (hC.okk.tab hp).1.2.2.2.1; have e9 : (V0.setC (C.setOd odF)).T = V0.T := rfl; rw [e9] at this; omega)]
          exact b4 d d0 d1, fun q q0 q1 => by
          obtain ⟨c1, c2, c3, c4, c5⟩ := b5 q q0 q1
          rw [up_o2 (by omega), up_o2 (by omega), up_o2 (by omega), up_o2 (by omega : ¬ (x + 167 = x + 167 ∧ 44 + q = 37 + (k : Int)))]
          refine ⟨c1, c2, c3, ?_, c5⟩
          show _ = u1 od1 k w q
          by_cases z : q = k
          · rw [z, up_eq, u1_eq]
          · rw [up_o2 (by omega), u1_ne z]
            exact c4, fun q d q0 q1 d0 d1 => by
          rw [up_na _ _ _ _ (by omega), up_na _ _ _ _ (by omega)]
          exact b6 q d q0 q1 d0 d1⟩ (fun s s0 s1 => by
          by_cases z : s = k
          · rw [z, u1_eq]
            exact hw
          · rw [u1_ne z]
            exact h1 s s0 (by omega)) (fun s s0 s1 => by
          rw [u1_ne (by omega)]
          exact h2 s (by omega) s1) (fun q i z => (up_na _ _ _ _ (by omega)).trans (FR q i z))
      refine wk_iast (q := 173) dL_change_172 rfl cT (by omega) ?_
      refine wk_iinc (lo' := [(0, _), (1, _), (2, _), (3, _), (4, _), (5, _), (6, _), (7, _), (8, _), (9, _)]) (q := 176) dL_change_173 rfl rfl (by decide) rfl ?_
      refine wk_goto (t := 117) dL_change_176 rfl ?_
      exact ih'
    refine wk_iload (i := 9) (q := 119) dL_change_117 rfl rfl ?_
    refine wk_aload_n (i := 2) (q := 120) dL_change_119 rfl rfl rfl ?_
    refine wk_iconst (q := 121) dL_change_120 rfl ?_
    refine wk_iald (q := 122) dL_change_121 rfl cT (by omega) ?_
    refine wk_icmp_ge (t := 179) (q := 125) dL_change_122 rfl rfl (by omega) (by omega) (fun hc122 => ?_) (fun hc122 => ?_)
    · omega
    · refine wk_aload_n (i := 2) (q := 126) dL_change_125 rfl rfl rfl ?_
      refine wk_bipush (q := 128) dL_change_126 rfl (by decide +kernel) ?_
      refine wk_iload (i := 9) (q := 130) dL_change_128 rfl rfl ?_
      refine wk_iadd (q := 131) dL_change_130 rfl ?_
      refine wk_aload_n (i := 2) (q := 132) dL_change_131 rfl rfl rfl ?_
      refine wk_bipush (q := 134) dL_change_132 rfl (by decide +kernel) ?_
      refine wk_iload (i := 9) (q := 136) dL_change_134 rfl rfl ?_
      refine wk_iadd (q := 137) dL_change_136 rfl ?_
      refine wk_iald (q := 138) dL_change_137 rfl cT (by omega) ?_
      rw [e1]
      refine wk_iload (i := 7) (q := 140) dL_change_138 rfl rfl ?_
      refine wk_icmp_ne (t := 148) (q := 143) dL_change_140 rfl rfl (by omega) (by omega) (fun hc140 => ?_) (fun hc140 => ?_)
      · refine wk_aload_n (i := 2) (q := 149) dL_change_148 rfl rfl rfl ?_
        refine wk_bipush (q := 151) dL_change_149 rfl (by decide +kernel) ?_
        refine wk_iload (i := 9) (q := 153) dL_change_151 rfl rfl ?_
        refine wk_iadd (q := 154) dL_change_153 rfl ?_
        refine wk_iald (q := 155) dL_change_154 rfl cT (by omega) ?_
        rw [e1]
        refine wk_iload (i := 8) (q := 157) dL_change_155 rfl rfl ?_
        refine wk_icmp_ne (t := 165) (q := 160) dL_change_157 rfl rfl (by omega) (by omega) (fun hc157 => ?_) (fun hc157 => ?_)
        · refine wk_aload_n (i := 2) (q := 166) dL_change_165 rfl rfl rfl ?_
          refine wk_bipush (q := 168) dL_change_166 rfl (by decide +kernel) ?_
          refine wk_iload (i := 9) (q := 170) dL_change_168 rfl rfl ?_
          refine wk_iadd (q := 171) dL_change_170 rfl ?_
          refine wk_iald (q := 172) dL_change_171 rfl cT (by omega) ?_
          refine st _ ?_
          rw [hF k (by omega) (by omega)]
          show _ = if C.od k = g then h else if C.od k = h then g else C.od k
          first
            | (rw [if_pos (by omega)]; done)
            | (rw [if_neg (by omega), if_pos (by omega)]; done)
            | (rw [if_neg (by omega), if_neg (by omega)]; exact e1)
        · refine wk_iload (i := 7) (q := 162) dL_change_160 rfl rfl ?_
          refine wk_goto (t := 172) dL_change_162 rfl ?_
          refine st _ ?_
          rw [hF k (by omega) (by omega)]
          show _ = if C.od k = g then h else if C.od k = h then g else C.od k
          first
            | (rw [if_pos (by omega)]; done)
            | (rw [if_neg (by omega), if_pos (by omega)]; done)
            | (rw [if_neg (by omega), if_neg (by omega)]; exact e1)
      · refine wk_iload (i := 8) (q := 145) dL_change_143 rfl rfl ?_
        refine wk_goto (t := 172) dL_change_145 rfl ?_
        refine st _ ?_
        rw [hF k (by omega) (by omega)]
        show _ = if C.od k = g then h else if C.od k = h then g else C.od k
        first
          | (rw [if_pos (by omega)]; done)
          | (rw [if_neg (by omega), if_pos (by omega)]; done)
          | (rw [if_neg (by omega), if_neg (by omega)]; exact e1)
end CHANGE
section CHANGE2
variable {l : Launch} {E : qEv} {n : Nat} {sh : qSh} {I L : qI} {R : qR}
theorem ct_change {x : Nat} {V0 : VV} {v : Int} (cT : isC E.2.2 n sh (x + 167) 0 51) (cW : isC E.2.2 n sh (x + 168) 0 42) (cU : isC E.2.2 n sh (x + 169) 0 42) (hp : 0 < V0.T.ng) (hC : CI E.2.2 n sh x I L R V0) (hA : tyA I (x + 167) (x + 168) (x + 169) V0.T V0.C V0.la) :
    Ct l E 2 mL_change [.ref x, .int (zI v), .ref (x + 167), .ref (x + 168), .ref (x + 169)] (n, sh, I, L, R) 0 0 (qZ n sh (fun r I' L' R' => r = 1 ∧ ∃ C', CI E.2.2 n sh x I' L' R' (V0.setC C') ∧ tyA I' (x + 167) (x + 168) (x + 169) V0.T C' V0.la ∧ ∀ q i, (q < x ∨ x + 170 ≤ q) → I' q i = I q i)) := by
  have hO := hC.isX
  have hA0 := hA
  obtain ⟨a0, a1, a2, a3, a4, a5, a6⟩ := hA
  obtain ⟨hT, hN, hLA⟩ := hC.okk.tab hp
  have hn2 := hT.1
  have hn7 := hT.2.1
  have hnd := hT.2.2.2.1
  have hst := hN.1.2.2.1
  have hst2 := hN.1.2.2.2.1
  have hco := hN.1.2.2.2.2.1
  have hco2 := hN.1.2.2.2.2.2.1
  have hod := hN.1.2.2.2.2.2.2.2.2.1
  rw [hN.2.1] at hod
  have j34 : ∀ v7 m a : Int, (0 ≤ v7 ∧ v7 < V0.T.ng - 1) → (m = 8 ∨ m = 3) → Wk l E (qmo E 2 n 0 0 (qZ n sh (fun r I' L' R' => r = 1 ∧ ∃ C', CI E.2.2 n sh x I' L' R' (V0.setC C') ∧ tyA I' (x + 167) (x + 168) (x + 169) V0.T C' V0.la ∧ ∀ q i, (q < x ∨ x + 170 ≤ q) → I' q i = I q i))) mL_change 0 0 34 [(0, .ref x), (1, .int (zI v)), (2, .ref (x + 167)), (3, .ref (x + 168)), (4, .ref (x + 169)), (5, .int (zI (1 + v7)))] [.int (zI m), .int (zI a), .int (zI 1)] (n, sh, I, L, R) := by
    intro v7 m a hv7 hm
    refine wk_sP2 (q := 37) dL_change_34 rfl sl_L_15 (ct_some ⟨by omega, by omega⟩) (qRo_m ok_L_some (by decide) (Nat.le_refl _) (Nat.le_refl _)) (Nat.le_of_ble_eq_true rfl) (fun v34 hv34 => ?_)
    refine wk_iadd (q := 38) dL_change_37 rfl ?_
    refine wk_istore (i := 6) (lo' := [(0, _), (1, _), (2, _), (3, _), (4, _), (5, _), (6, _)]) (q := 40) dL_change_38 rfl (by decide) rfl ?_
    refine wk_aload_n (i := 0) (q := 41) dL_change_40 rfl rfl rfl ?_
    refine wk_iload (i := 5) (q := 43) dL_change_41 rfl rfl ?_
    refine wk_cZ1 (q := 46) dL_change_43 rfl vl_L_28 ⟨_, _, rfl⟩ hO.ob (oc_step hC (by omega)) (qRo_m ok_X6_step (by decide) (Nat.le_refl _) (Nat.le_refl _)) (Nat.le_of_ble_eq_true rfl) (fun v43 I43 L43 R43 hv43 => ?_)
    obtain ⟨ea, hC1, fI, fR⟩ := hv43
    have er : v43 = V0.C.st := by
      rw [ea]
      unfold r_step
      rw [if_pos (by omega)]
    have es : s_step V0 (1 + v7) = V0.setC (V0.C.setSt (1 + v7)) := by
      unfold s_step
      rw [if_pos (by omega)]
    rw [es] at hC1
    refine wk_aload_n (i := 2) (q := 47) dL_change_46 rfl rfl rfl ?_
    refine wk_iconst (q := 48) dL_change_47 rfl ?_
    refine wk_iald (q := 49) dL_change_48 rfl cT (by omega) ?_
    rw [(fI _ _ (by omega)).trans a2]
    refine wk_icmp_ne (t := 64) (q := 52) dL_change_49 rfl rfl (by omega) (by omega) (fun hc49 => ?_) (fun hc49 => ?_)
    · omega
    · refine wk_aload_n (i := 0) (q := 53) dL_change_52 rfl rfl rfl ?_
      refine wk_iload (i := 6) (q := 55) dL_change_53 rfl rfl ?_
      refine wk_cZ1 (q := 58) dL_change_55 rfl vl_L_32 ⟨_, _, rfl⟩ hO.ob (oc_courses hC1 (by omega)) (qRo_m ok_X6_courses (by decide) (Nat.le_refl _) (Nat.le_refl _)) (Nat.le_of_ble_eq_true rfl) (fun v55 I55 L55 R55 hv55 => ?_)
      obtain ⟨eb, hC2, gI, gR⟩ := hv55
      have et : v55 = V0.C.co := by
        rw [eb]
        unfold r_courses
        rw [if_neg (by omega)]
        show (if 0 < V0.T.ng then V0.C.co else -3) = V0.C.co
        exact if_pos hp
      have eu : s_courses (V0.setC (V0.C.setSt (1 + v7))) (1 + v34) = V0.setC ((V0.C.setSt (1 + v7)).setCo (1 + v34)) := by
        unfold s_courses
        rw [if_neg (by omega)]
        show (if 0 < V0.T.ng then V0.setC ((V0.C.setSt (1 + v7)).setCo (1 + v34)) else V0.setC (V0.C.setSt (1 + v7))) = _
        exact if_pos hp
      rw [eu] at hC2
      have e0 : ∀ q i, (q < x ∨ x + 167 ≤ q) → I55 q i = I q i := fun q i z => (gI q i (by omega)).trans (fI q i (by omega))
      refine wk_aload_n (i := 2) (q := 59) dL_change_58 rfl rfl rfl ?_
      refine wk_iconst (q := 60) dL_change_59 rfl ?_
      refine wk_iald (q := 61) dL_change_60 rfl cT (by omega) ?_
      rw [(e0 _ _ (by omega)).trans a3]
      refine wk_icmp_eq (t := 66) (q := 64) dL_change_61 rfl rfl (by omega) (by omega) (fun hc61 => ?_) (fun hc61 => ?_)
      · refine wk_aload_n (i := 2) (q := 67) dL_change_66 rfl rfl rfl ?_
        refine wk_iconst (q := 68) dL_change_67 rfl ?_
        refine wk_iload (i := 5) (q := 70) dL_change_68 rfl rfl ?_
        refine wk_iast (q := 71) dL_change_70 rfl cT (by omega) ?_
        refine wk_aload_n (i := 2) (q := 72) dL_change_71 rfl rfl rfl ?_
        refine wk_iconst (q := 73) dL_change_72 rfl ?_
        refine wk_iload (i := 6) (q := 75) dL_change_73 rfl rfl ?_
        refine wk_iast (q := 76) dL_change_75 rfl cT (by omega) ?_
        refine wk_iload_n (i := 1) (q := 77) dL_change_76 rfl rfl rfl ?_
        refine wk_bipush (q := 79) dL_change_77 rfl (by decide +kernel) ?_
        refine wk_ishr (q := 80) dL_change_79 rfl ?_
        refine wk_aload_n (i := 2) (q := 81) dL_change_80 rfl rfl rfl ?_
        refine wk_iconst (q := 82) dL_change_81 rfl ?_
        refine wk_iald (q := 83) dL_change_82 rfl cT (by omega) ?_
        rw [show up (up I55 (x + 167) 2 (1 + v7)) (x + 167) 3 (1 + v34) (x + 167) 0 = V0.T.ng by rw [up_ni _ _ (by omega), up_ni _ _ (by omega), e0 _ _ (by omega)]; exact a0]
        refine wk_sP2 (q := 86) dL_change_83 rfl sl_L_15 (ct_some ⟨by omega, by omega⟩) (qRo_m ok_L_some (by decide) (Nat.le_refl _) (Nat.le_refl _)) (Nat.le_of_ble_eq_true rfl) (fun v83 hv83 => ?_)
        refine wk_istore (i := 7) (lo' := [(0, _), (1, _), (2, _), (3, _), (4, _), (5, _), (6, _), (7, _)]) (q := 88) dL_change_86 rfl (by decide) rfl ?_
        refine wk_iload_n (i := 1) (q := 89) dL_change_88 rfl rfl rfl ?_
        refine wk_bipush (q := 91) dL_change_89 rfl (by decide +kernel) ?_
        refine wk_ishr (q := 92) dL_change_91 rfl ?_
        refine wk_aload_n (i := 2) (q := 93) dL_change_92 rfl rfl rfl ?_
        refine wk_iconst (q := 94) dL_change_93 rfl ?_
        refine wk_iald (q := 95) dL_change_94 rfl cT (by omega) ?_
        rw [show up (up I55 (x + 167) 2 (1 + v7)) (x + 167) 3 (1 + v34) (x + 167) 0 = V0.T.ng by rw [up_ni _ _ (by omega), up_ni _ _ (by omega), e0 _ _ (by omega)]; exact a0]
        refine wk_sP2 (q := 98) dL_change_95 rfl sl_L_15 (ct_some ⟨by omega, by omega⟩) (qRo_m ok_L_some (by decide) (Nat.le_refl _) (Nat.le_refl _)) (Nat.le_of_ble_eq_true rfl) (fun v95 hv95 => ?_)
        refine wk_istore (i := 8) (lo' := [(0, _), (1, _), (2, _), (3, _), (4, _), (5, _), (6, _), (7, _), (8, _)]) (q := 100) dL_change_98 rfl (by decide) rfl ?_
        refine wk_aload_n (i := 0) (q := 101) dL_change_100 rfl rfl rfl ?_
        refine wk_iload (i := 7) (q := 103) dL_change_101 rfl rfl ?_
        refine wk_iload (i := 8) (q := 105) dL_change_103 rfl rfl ?_
        refine wk_cZ2 (q := 108) dL_change_105 rfl vl_L_35 ⟨_, _, rfl⟩ hO.ob (oc_swap (hC2.frm (I' := up (up I55 (x + 167) 2 (1 + v7)) (x + 167) 3 (1 + v34)) (fun c i z1 z2 => by rw [up_na _ _ _ _ (by omega), up_na _ _ _ _ (by omega)])) (by omega) (by omega)) (qRo_m ok_X6_swap (by decide) (Nat.le_refl _) (Nat.le_refl _)) (Nat.le_of_ble_eq_true rfl) (fun v105 I105 L105 R105 hv105 => ?_)
        obtain ⟨ec, hC3, kI, kR⟩ := hv105
        have ew : v105 = 1 := by
          rw [ec]
          unfold r_swap
          exact if_pos ⟨hv83, hv95⟩
        have ex : s_swap (V0.setC ((V0.C.setSt (1 + v7)).setCo (1 + v34))) v83 v95 = V0.setC (((V0.C.setSt (1 + v7)).setCo (1 + v34)).setOd (u1 (u1 V0.C.od (seatI V0 v83) v95) (seatI V0 v95) v83)) := by
          unfold s_swap
          exact if_pos ⟨hv83, hv95⟩
        rw [ex] at hC3
        refine wk_iconst (q := 109) dL_change_108 rfl ?_
        refine wk_icmp_eq (t := 114) (q := 112) dL_change_109 rfl rfl (by omega) (by omega) (fun hc109 => ?_) (fun hc109 => ?_)
        · refine wk_iconst (q := 115) dL_change_114 rfl ?_
          refine wk_istore (i := 9) (lo' := [(0, _), (1, _), (2, _), (3, _), (4, _), (5, _), (6, _), (7, _), (8, _), (9, _)]) (q := 117) dL_change_115 rfl (by decide) rfl ?_
          have s1 := seatI_ok hC.okk hv83.1 hv83.2
          have s2 := seatI_ok hC.okk hv95.1 hv95.2
          have e3 : ∀ q i, x + 167 ≤ q → I105 q i = up (up I55 (x + 167) 2 (1 + v7)) (x + 167) 3 (1 + v34) q i := fun q i z => kI q i (by omega)
          have e4 : ∀ i, i ≠ 2 → i ≠ 3 → I105 (x + 167) i = I (x + 167) i := fun i z1 z2 => by rw [e3 _ _ (by omega), up_ni _ _ z2, up_ni _ _ z1, e0 _ _ (by omega)]
          have e5 : ∀ q i, x + 168 ≤ q → I105 q i = I q i := fun q i z => by rw [e3 _ _ (by omega), up_na _ _ _ _ (by omega), up_na _ _ _ _ (by omega), e0 _ _ (by omega)]
          have e6 : I105 (x + 167) 2 = 1 + v7 := by rw [e3 _ _ (by omega), up_ni _ _ (by omega), up_eq]
          have e7 : I105 (x + 167) 3 = 1 + v34 := by rw [e3 _ _ (by omega), up_eq]
          refine ch_b (l := l) (E := E) (n := n) (sh := sh) (I := I) (v := v) (v5 := 1 + v7) (v6 := 1 + v34) (g := v83) (h := v95) (C := (V0.C.setSt (1 + v7)).setCo (1 + v34)) cT cW cU hp hn7 hv83 hv95 (fun s q0 q1 => ?_) hod 0 (Nat.zero_le _) I105 L105 R105 V0.C.od hC3 ⟨(e4 _ (by omega) (by omega)).trans a0, (e4 _ (by omega) (by omega)).trans a1, e6, e7, fun d d0 d1 => ?_, fun q q0 q1 => ?_, fun q d q0 q1 d0 d1 => ?_⟩ (fun s q0 q1 => absurd q1 (by omega)) (fun s _ _ => rfl) (fun q i z => (kI q i (by omega)).trans (by rw [up_na _ _ _ _ (by omega), up_na _ _ _ _ (by omega), e0 _ _ (by omega)]))
          · have t1 := s1.2.2 s q0 q1
            have t2 := s2.2.2 s q0 q1
            show u1 (u1 V0.C.od (seatI V0 v83) v95) (seatI V0 v95) v83 s = if V0.C.od s = v83 then v95 else if V0.C.od s = v95 then v83 else V0.C.od s
            by_cases z2 : s = seatI V0 v95
            · have y2 := t2.mpr z2
              rw [z2, u1_eq, ← z2]
              by_cases z1 : V0.C.od s = v83
              · rw [if_pos z1]
                omega
              · rw [if_neg z1, if_pos y2]
            · have y2 : ¬ V0.C.od s = v95 := fun z => z2 (t2.mp z)
              rw [u1_ne z2]
              by_cases z1 : s = seatI V0 v83
              · rw [if_pos (t1.mpr z1), z1, u1_eq]
              · rw [u1_ne z1, if_neg (fun z => z1 (t1.mp z)), if_neg y2]
          · rw [e4 _ (by omega) (by omega), e4 _ (by omega) (by omega)]
            exact a4 d d0 d1
          · rw [e4 _ (by omega) (by omega), e4 _ (by omega) (by omega), e4 _ (by omega) (by omega), e4 _ (by omega) (by omega), e4 _ (by omega) (by omega)]
            exact a5 q q0 q1
          · rw [e5 _ _ (by omega), e5 _ _ (by omega)]
            exact a6 q d q0 q1 d0 d1
        · omega
      · omega
  refine Ct.of (lo := [(0, _), (1, _), (2, _), (3, _), (4, _)]) ok_L_change (Nat.le_of_ble_eq_true rfl) rfl ?_
  refine wk_iconst (q := 1) dL_change_0 rfl ?_
  refine wk_iload_n (i := 1) (q := 2) dL_change_1 rfl rfl rfl ?_
  refine wk_aload_n (i := 2) (q := 3) dL_change_2 rfl rfl rfl ?_
  refine wk_iconst (q := 4) dL_change_3 rfl ?_
  refine wk_iald (q := 5) dL_change_4 rfl cT (by omega) ?_
  refine wk_iconst (q := 6) dL_change_5 rfl ?_
  rw [a0]
  refine wk_isub (q := 7) dL_change_6 rfl ?_
  refine wk_sP2 (q := 10) dL_change_7 rfl sl_L_15 (ct_some ⟨by omega, by omega⟩) (qRo_m ok_L_some (by decide) (Nat.le_refl _) (Nat.le_refl _)) (Nat.le_of_ble_eq_true rfl) (fun v7 hv7 => ?_)
  refine wk_iadd (q := 11) dL_change_10 rfl ?_
  refine wk_istore (i := 5) (lo' := [(0, _), (1, _), (2, _), (3, _), (4, _), (5, _)]) (q := 13) dL_change_11 rfl (by decide) rfl ?_
  refine wk_iconst (q := 14) dL_change_13 rfl ?_
  refine wk_iload_n (i := 1) (q := 15) dL_change_14 rfl rfl rfl ?_
  refine wk_iconst (q := 16) dL_change_15 rfl ?_
  refine wk_ishr (q := 17) dL_change_16 rfl ?_
  refine wk_iload_n (i := 1) (q := 18) dL_change_17 rfl rfl rfl ?_
  refine wk_bipush (q := 20) dL_change_18 rfl (by decide +kernel) ?_
  refine wk_ishr (q := 21) dL_change_20 rfl ?_
  refine wk_iconst (q := 22) dL_change_21 rfl ?_
  refine wk_sP2 (q := 25) dL_change_22 rfl sl_L_15 (ct_some ⟨by omega, by omega⟩) (qRo_m ok_L_some (by decide) (Nat.le_refl _) (Nat.le_refl _)) (Nat.le_of_ble_eq_true rfl) (fun v22 hv22 => ?_)
  refine wk_if_ne (t := 33) (q := 28) dL_change_25 rfl rfl (by omega) (fun hc25 => ?_) (fun hc25 => ?_)
  · refine wk_iconst (q := 34) dL_change_33 rfl ?_
    first
    | exact j34 _ 8 _ hv7 (Or.inl rfl)
    | exact j34 _ 3 _ hv7 (Or.inr rfl)
  · refine wk_bipush (q := 30) dL_change_28 rfl (by decide +kernel) ?_
    refine wk_goto (t := 34) dL_change_30 rfl ?_
    first
    | exact j34 _ 8 _ hv7 (Or.inl rfl)
    | exact j34 _ 3 _ hv7 (Or.inr rfl)
end CHANGE2
