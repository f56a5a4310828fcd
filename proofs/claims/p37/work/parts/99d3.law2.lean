/-! THE LAW: what each gets, how glad, who pays -/
theorem shareR_one {a : Int} (ha : 0 ≤ a) : shareR a 1 0 = a ∧ shareR a 1 1 = 1 := by
  have e : gcdI a 1 = 1 := by
    have := gcdI_bd (a := a) (b := 1) (by omega)
    omega
  unfold shareR
  rw [e, if_pos rfl, if_neg (by decide)]
  exact ⟨Int.ediv_one a, rfl⟩
section LAW2
variable {l : Launch} {E : qEv} {Q : List Frame → Array Value → State → State → Prop} {b N : Nat} {xs : Nat → Int32} {n : Nat} {sh : qSh} {x k j : Nat} {cd tn : Int}
/-- one guest, behind his courses -/
theorem lw_g2 {V : VV} {v11 : Int} (hk : k ≤ 600000) (hj : j ≤ 7302250) (hL : LC E.2.2 n sh x) {g : Nat} (hg : (g : Int) < V.T.ng) (K : ∀ I1 L1 R1, NW E n sh x I1 L1 R1 V → Wk l E (lwY E Q b N xs) mL k j 174 [(0, .ref b), (1, .ref x), (2, .ref (x + 167)), (3, .ref (x + 168)), (4, .ref (x + 169)), (5, .int (zI cd)), (6, .int (zI V.T.ng)), (7, .ref (x + 170)), (8, .ref (x + 171)), (9, .ref (x + 172)), (10, .int (zI tn)), (11, .int (zI v11)), (12, .int (zI (sumI (evV V).pa V.T.ng.toNat))), (13, .int (zI ((g : Int) + 1)))] [] (n, sh, I1, L1, R1)) {I1 L1 : qI} {R1 : qR} (hW : NW E n sh x I1 L1 R1 V) :
    Wk l E (lwY E Q b N xs) mL k j 222 [(0, .ref b), (1, .ref x), (2, .ref (x + 167)), (3, .ref (x + 168)), (4, .ref (x + 169)), (5, .int (zI cd)), (6, .int (zI V.T.ng)), (7, .ref (x + 170)), (8, .ref (x + 171)), (9, .ref (x + 172)), (10, .int (zI tn)), (11, .int (zI v11)), (12, .int (zI (sumI (evV V).pa V.T.ng.toNat))), (13, .int (zI g)), (14, .int (zI V.C.co))] [] (n, sh, I1, L1, R1) := by
  obtain ⟨cT, cW, cU, cP, cG, cO⟩ := id hL
  have hW0 := hW
  obtain ⟨hC, hp, hA, hz, hB, hG, hGo⟩ := hW
  have hO := hC.isX
  obtain ⟨hT, hNo, hLA⟩ := hC.okk.tab hp
  have hn7 := hT.2.1
  have hco : V.C.co ≤ 8 := hNo.1.2.2.2.2.2.1
  have hco1 : 1 ≤ V.C.co := hNo.1.2.2.2.2.1
  have a3 := hA.2.2.2.1
  have hpa := evE_pa hT hNo.1 (la := V.la) g
  have hsum := sumI_bd2 (f := (evV V).pa) (B := 504) (N := V.T.ng) (fun q _ _ => evE_pa hT hNo.1 (la := V.la) q) V.T.ng.toNat (by omega)
  have fin : ∀ v326 : Int, v326 = 1 → ∀ (I2 L2 : qI) (R2 : qR), NW E n sh x I2 L2 R2 V → Wk l E (lwY E Q b N xs) mL k j 326 [(0, .ref b), (1, .ref x), (2, .ref (x + 167)), (3, .ref (x + 168)), (4, .ref (x + 169)), (5, .int (zI cd)), (6, .int (zI V.T.ng)), (7, .ref (x + 170)), (8, .ref (x + 171)), (9, .ref (x + 172)), (10, .int (zI tn)), (11, .int (zI v11)), (12, .int (zI (sumI (evV V).pa V.T.ng.toNat))), (13, .int (zI g)), (14, .int (zI V.C.co))] [.int (zI v326)] (n, sh, I2, L2, R2) := by
    intro v326 hv I2 L2 R2 hW2
    have w := K I2 L2 R2 hW2
    subst hv
    refine wk_if_ne (t := 331) (q := 329) dL_law_326 rfl rfl (by omega) (fun hc326 => ?_) (fun hc326 => ?_)
    · refine wk_iinc (lo' := [(0, _), (1, _), (2, _), (3, _), (4, _), (5, _), (6, _), (7, _), (8, _), (9, _), (10, _), (11, _), (12, _), (13, _), (14, _)]) (q := 334) dL_law_331 rfl rfl (by decide) rfl ?_
      refine wk_goto (t := 174) dL_law_334 rfl ?_
      refine wk_del (i := 14) (lo' := [(0, _), (1, _), (2, _), (3, _), (4, _), (5, _), (6, _), (7, _), (8, _), (9, _), (10, _), (11, _), (12, _), (13, _)]) rfl ?_
      exact w
    · omega
  have p3 : ∀ (I2 L2 : qI) (R2 : qR), NW E n sh x I2 L2 R2 V → Wk l E (lwY E Q b N xs) mL k j 267 [(0, .ref b), (1, .ref x), (2, .ref (x + 167)), (3, .ref (x + 168)), (4, .ref (x + 169)), (5, .int (zI cd)), (6, .int (zI V.T.ng)), (7, .ref (x + 170)), (8, .ref (x + 171)), (9, .ref (x + 172)), (10, .int (zI tn)), (11, .int (zI v11)), (12, .int (zI (sumI (evV V).pa V.T.ng.toNat))), (13, .int (zI g)), (14, .int (zI V.C.co))] [] (n, sh, I2, L2, R2) := by
    intro I2 L2 R2 hW2
    have hG2 := (hW2.2.2.2.2.2.1 g (by omega) hg).2.2
    refine wk_aload_n (i := 1) (q := 268) dL_law_267 rfl rfl rfl ?_
    refine wk_iload (i := 13) (q := 270) dL_law_268 rfl rfl ?_
    refine wk_iconst (q := 271) dL_law_270 rfl ?_
    refine wk_iconst (q := 272) dL_law_271 rfl ?_
    refine wk_cJ3 (q := 275) dL_law_272 rfl vl_L_74 ⟨_, _, rfl⟩ hO.ob (oc_pays hW2.1 (by omega) (by decide) (by decide)) ⟨Nat.le_of_ble_eq_true rfl, Nat.le_of_ble_eq_true rfl, hk, hj⟩ (Nat.le_of_ble_eq_true rfl) (fun v272 I272 L272 R272 hv272 => ?_)
    obtain ⟨ea, hC3, fI, fR⟩ := hv272
    have hW3 := hW2.st hL hC3 ⟨rfl, rfl, rfl, rfl⟩ fI
    have er : v272 = (evV V).pa g := by
      rw [ea]
      unfold r_pays
      rw [if_pos ⟨⟨by omega, hg⟩, Or.inl rfl⟩, if_neg (by decide)]
      exact (shareR_one hpa.1).1
    have e8 : I272 (x + 171) (7 + (g : Int)) = (evV V).pa g := (hW3.2.2.2.2.2.1 g (by omega) hg).2.2
    refine wk_aload (i := 8) (q := 277) dL_law_275 rfl rfl ?_
    refine wk_bipush (q := 279) dL_law_277 rfl (by decide +kernel) ?_
    refine wk_iload (i := 13) (q := 281) dL_law_279 rfl rfl ?_
    refine wk_iadd (q := 282) dL_law_281 rfl ?_
    refine wk_iald (q := 283) dL_law_282 rfl cG (by omega) ?_
    rw [e8]
    refine wk_i2l (q := 284) dL_law_283 rfl ⟨by have := hpa.1; show _ ≤ (evE V.T V.C V.la).pa g; omega, by have := hpa.2; show (evE V.T V.C V.la).pa g < _; omega⟩ ?_
    refine wk_lcmp (q := 285) dL_law_284 rfl (by rw [er]; exact ⟨by have := hpa.1; show _ ≤ (evE V.T V.C V.la).pa g; omega, by have := hpa.2; show (evE V.T V.C V.la).pa g < _; omega⟩) ⟨by have := hpa.1; show _ ≤ (evE V.T V.C V.la).pa g; omega, by have := hpa.2; show (evE V.T V.C V.la).pa g < _; omega⟩ (fun hc284 => ?_) (fun hc284 => ?_) (fun hc284 => ?_)
    · refine wk_if_ne (t := 329) (q := 288) dL_law_285 rfl rfl (by omega) (fun _ => ?_) (fun hq => absurd hq (by decide))
      omega
    · refine wk_if_ne (t := 329) (q := 288) dL_law_285 rfl rfl (by omega) (fun hq => absurd hq (by decide)) (fun _ => ?_)
      refine wk_aload_n (i := 1) (q := 289) dL_law_288 rfl rfl rfl ?_
      refine wk_iload (i := 13) (q := 291) dL_law_289 rfl rfl ?_
      refine wk_iconst (q := 292) dL_law_291 rfl ?_
      refine wk_iconst (q := 293) dL_law_292 rfl ?_
      refine wk_cJ3 (q := 296) dL_law_293 rfl vl_L_74 ⟨_, _, rfl⟩ hO.ob (oc_pays hC3 (by omega) (by decide) (by decide)) ⟨Nat.le_of_ble_eq_true rfl, Nat.le_of_ble_eq_true rfl, hk, hj⟩ (Nat.le_of_ble_eq_true rfl) (fun v293 I293 L293 R293 hv293 => ?_)
      obtain ⟨eb, hC4, gI, gR⟩ := hv293
      have hW4 := hW3.st hL hC4 ⟨rfl, rfl, rfl, rfl⟩ gI
      have es : v293 = 1 := by
        rw [eb]
        unfold r_pays
        rw [if_pos ⟨⟨by omega, hg⟩, Or.inr rfl⟩, if_neg (by decide)]
        exact (shareR_one hpa.1).2
      refine wk_lconst (z := 1) (q := 297) dL_law_296 rfl rfl ?_
      refine wk_lcmp (q := 298) dL_law_297 rfl (by omega) (by omega) (fun hc297 => ?_) (fun hc297 => ?_) (fun hc297 => ?_)
      · refine wk_if_ne (t := 329) (q := 301) dL_law_298 rfl rfl (by omega) (fun _ => ?_) (fun hq => absurd hq (by decide))
        omega
      · refine wk_if_ne (t := 329) (q := 301) dL_law_298 rfl rfl (by omega) (fun hq => absurd hq (by decide)) (fun _ => ?_)
        refine wk_iload (i := 12) (q := 303) dL_law_301 rfl rfl ?_
        refine wk_i2l (q := 304) dL_law_303 rfl (by omega) ?_
        refine wk_iload (i := 6) (q := 306) dL_law_304 rfl rfl ?_
        refine wk_i2l (q := 307) dL_law_306 rfl (by omega) ?_
        refine wk_aload_n (i := 1) (q := 308) dL_law_307 rfl rfl rfl ?_
        refine wk_iload (i := 13) (q := 310) dL_law_308 rfl rfl ?_
        refine wk_iconst (q := 311) dL_law_310 rfl ?_
        refine wk_iconst (q := 312) dL_law_311 rfl ?_
        refine wk_cJ3 (q := 315) dL_law_312 rfl vl_L_74 ⟨_, _, rfl⟩ hO.ob (oc_pays hC4 (by omega) (by decide) (by decide)) ⟨Nat.le_of_ble_eq_true rfl, Nat.le_of_ble_eq_true rfl, hk, hj⟩ (Nat.le_of_ble_eq_true rfl) (fun v312 I312 L312 R312 hv312 => ?_)
        obtain ⟨ec, hC5, kI, kR⟩ := hv312
        have hW5 := hW4.st hL hC5 ⟨rfl, rfl, rfl, rfl⟩ kI
        have et : v312 = shareR (sumI (evV V).pa V.T.ng.toNat) V.T.ng 0 := by
          rw [ec]
          unfold r_pays
          rw [if_pos ⟨⟨by omega, hg⟩, Or.inl rfl⟩, if_pos (by decide)]
        refine wk_aload_n (i := 1) (q := 316) dL_law_315 rfl rfl rfl ?_
        refine wk_iload (i := 13) (q := 318) dL_law_316 rfl rfl ?_
        refine wk_iconst (q := 319) dL_law_318 rfl ?_
        refine wk_iconst (q := 320) dL_law_319 rfl ?_
        refine wk_cJ3 (q := 323) dL_law_320 rfl vl_L_74 ⟨_, _, rfl⟩ hO.ob (oc_pays hC5 (by omega) (by decide) (by decide)) ⟨Nat.le_of_ble_eq_true rfl, Nat.le_of_ble_eq_true rfl, hk, hj⟩ (Nat.le_of_ble_eq_true rfl) (fun v320 I320 L320 R320 hv320 => ?_)
        obtain ⟨ed, hC6, mI, mR⟩ := hv320
        have hW6 := hW5.st hL hC6 ⟨rfl, rfl, rfl, rfl⟩ mI
        have eu : v320 = shareR (sumI (evV V).pa V.T.ng.toNat) V.T.ng 1 := by
          rw [ed]
          unfold r_pays
          rw [if_pos ⟨⟨by omega, hg⟩, Or.inr rfl⟩, if_pos (by decide)]
        subst et
        subst eu
        refine wk_sP4 (q := 326) dL_law_323 rfl sl_L_78 (ct_isAlike ⟨hsum.1, by omega⟩ ⟨by omega, by omega⟩) ⟨Nat.le_of_ble_eq_true rfl, Nat.le_of_ble_eq_true rfl, hk, hj⟩ (Nat.le_of_ble_eq_true rfl) (fun v323 hv323 => ?_)
        exact fin _ hv323 _ _ _ hW6
      · refine wk_if_ne (t := 329) (q := 301) dL_law_298 rfl rfl (by omega) (fun _ => ?_) (fun hq => absurd hq (by decide))
        omega
    · refine wk_if_ne (t := 329) (q := 288) dL_law_285 rfl rfl (by omega) (fun _ => ?_) (fun hq => absurd hq (by decide))
      omega
  have q249 : ∀ (I2 L2 : qI) (R2 : qR), NW E n sh x I2 L2 R2 V → Wk l E (lwY E Q b N xs) mL k j 249 [(0, .ref b), (1, .ref x), (2, .ref (x + 167)), (3, .ref (x + 168)), (4, .ref (x + 169)), (5, .int (zI cd)), (6, .int (zI V.T.ng)), (7, .ref (x + 170)), (8, .ref (x + 171)), (9, .ref (x + 172)), (10, .int (zI tn)), (11, .int (zI v11)), (12, .int (zI (sumI (evV V).pa V.T.ng.toNat))), (13, .int (zI g)), (14, .int (zI V.C.co))] [] (n, sh, I2, L2, R2) := by
    intro I2 L2 R2 hW2
    have w := p3 I2 L2 R2 hW2
    have hG2 := (hW2.2.2.2.2.2.1 g (by omega) hg).1
    refine wk_aload_n (i := 1) (q := 250) dL_law_249 rfl rfl rfl ?_
    refine wk_iload (i := 13) (q := 252) dL_law_250 rfl rfl ?_
    refine wk_iconst (q := 253) dL_law_252 rfl ?_
    refine wk_cP2 (q := 256) dL_law_253 rfl vl_L_71 ⟨_, _, rfl⟩ hO.ob (oc_ofGuest hW2.1 (by omega) (by decide)) ⟨Nat.le_of_ble_eq_true rfl, Nat.le_of_ble_eq_true rfl, hk, hj⟩ (Nat.le_of_ble_eq_true rfl) (fun v253 hv253 => ?_)
    have er : v253 = V.la g := by rw [hv253]; unfold r_ofGuest; rw [if_pos ⟨by omega, hg⟩, if_neg (by decide), if_neg (by decide), if_neg (by decide), if_neg (by decide), if_pos rfl]
    refine wk_aload (i := 7) (q := 258) dL_law_256 rfl rfl ?_
    refine wk_bipush (q := 260) dL_law_258 rfl (by decide +kernel) ?_
    refine wk_iload (i := 13) (q := 262) dL_law_260 rfl rfl ?_
    refine wk_iadd (q := 263) dL_law_262 rfl ?_
    refine wk_iald (q := 264) dL_law_263 rfl cP (by omega) ?_
    rw [er, hG2]
    exact wk_icmp_neS dL_law_264 rfl rfl w
  refine wk_aload_n (i := 1) (q := 223) dL_law_222 rfl rfl rfl ?_
  refine wk_iload (i := 13) (q := 225) dL_law_223 rfl rfl ?_
  refine wk_aload_n (i := 2) (q := 226) dL_law_225 rfl rfl rfl ?_
  refine wk_iconst (q := 227) dL_law_226 rfl ?_
  refine wk_iald (q := 228) dL_law_227 rfl cT (by omega) ?_
  rw [a3]
  refine wk_cZ2 (q := 231) dL_law_228 rfl vl_L_65 ⟨_, _, rfl⟩ hO.ob (oc_gets hC (by omega) (by omega)) ⟨Nat.le_of_ble_eq_true rfl, Nat.le_of_ble_eq_true rfl, hk, hj⟩ (Nat.le_of_ble_eq_true rfl) (fun v228 I228 L228 R228 hv228 => ?_)
  obtain ⟨ea, hC2, fI, fR⟩ := hv228
  have hW2 := hW0.st hL hC2 ⟨rfl, rfl, rfl, rfl⟩ fI
  have er : v228 = -1 := by
    rw [ea]
    unfold r_gets
    rw [if_neg (by omega)]
  refine wk_iconst (q := 232) dL_law_231 rfl ?_
  refine wk_icmp_ne (t := 329) (q := 235) dL_law_232 rfl rfl (by omega) (by omega) (fun hc232 => ?_) (fun hc232 => ?_)
  · omega
  · refine wk_aload_n (i := 1) (q := 236) dL_law_235 rfl rfl rfl ?_
    refine wk_iload (i := 13) (q := 238) dL_law_236 rfl rfl ?_
    refine wk_cZ1 (q := 241) dL_law_238 rfl vl_L_68 ⟨_, _, rfl⟩ hO.ob (oc_glad hC2 (by omega)) ⟨Nat.le_of_ble_eq_true rfl, Nat.le_of_ble_eq_true rfl, hk, hj⟩ (Nat.le_of_ble_eq_true rfl) (fun v238 I238 L238 R238 hv238 => ?_)
    obtain ⟨eb, hC3, gI, gR⟩ := hv238
    have hW3 := hW2.st hL hC3 ⟨rfl, rfl, rfl, rfl⟩ gI
    have es : v238 = (evV V).gl g := by
      rw [eb]
      unfold r_glad
      rw [if_pos ⟨by omega, hg⟩]
    have e8 : I238 (x + 171) (g : Int) = (evV V).gl g := (hW3.2.2.2.2.2.1 g (by omega) hg).2.1
    refine wk_aload (i := 8) (q := 243) dL_law_241 rfl rfl ?_
    refine wk_iload (i := 13) (q := 245) dL_law_243 rfl rfl ?_
    refine wk_iald (q := 246) dL_law_245 rfl cG (by omega) ?_
    rw [es, e8]
    exact wk_icmp_neS dL_law_246 rfl rfl (q249 _ _ _ hW3)
theorem lw_t2 {V : VV} {v11 : Int} (hk : k ≤ 600000) (hj : j ≤ 7302250) (hL : LC E.2.2 n sh x) (K : ∀ I1 L1 R1, NW E n sh x I1 L1 R1 V → Wk l E (lwY E Q b N xs) mL k j 337 [(0, .ref b), (1, .ref x), (2, .ref (x + 167)), (3, .ref (x + 168)), (4, .ref (x + 169)), (5, .int (zI cd)), (6, .int (zI V.T.ng)), (7, .ref (x + 170)), (8, .ref (x + 171)), (9, .ref (x + 172)), (10, .int (zI tn)), (11, .int (zI v11))] [] (n, sh, I1, L1, R1)) {I L : qI} {R : qR} (hW : NW E n sh x I L R V) :
    Wk l E (lwY E Q b N xs) mL k j 139 [(0, .ref b), (1, .ref x), (2, .ref (x + 167)), (3, .ref (x + 168)), (4, .ref (x + 169)), (5, .int (zI cd)), (6, .int (zI V.T.ng)), (7, .ref (x + 170)), (8, .ref (x + 171)), (9, .ref (x + 172)), (10, .int (zI tn)), (11, .int (zI v11))] [] (n, sh, I, L, R) := by
  obtain ⟨cT, cW, cU, cP, cG, cO⟩ := id hL
  have hW0 := hW
  obtain ⟨hC, hp, hA, hz, hB, hG, hGo⟩ := hW
  have hO := hC.isX
  obtain ⟨hT, hNo, hLA⟩ := hC.okk.tab hp
  have hn7 := hT.2.1
  have hco : V.C.co ≤ 8 := hNo.1.2.2.2.2.2.1
  have hco1 : 1 ≤ V.C.co := hNo.1.2.2.2.2.1
  have guests : ∀ g : Nat, g ≤ V.T.ng.toNat → ∀ I1 L1 R1, NW E n sh x I1 L1 R1 V → Wk l E (lwY E Q b N xs) mL k j 174 [(0, .ref b), (1, .ref x), (2, .ref (x + 167)), (3, .ref (x + 168)), (4, .ref (x + 169)), (5, .int (zI cd)), (6, .int (zI V.T.ng)), (7, .ref (x + 170)), (8, .ref (x + 171)), (9, .ref (x + 172)), (10, .int (zI tn)), (11, .int (zI v11)), (12, .int (zI (sumI (evV V).pa V.T.ng.toNat))), (13, .int (zI g))] [] (n, sh, I1, L1, R1) := by
    refine up_ind V.T.ng.toNat ?_ ?_
    · intro I1 L1 R1 hW1
      have w := K I1 L1 R1 hW1
      refine wk_iload (i := 13) (q := 176) dL_law_174 rfl rfl ?_
      refine wk_iload (i := 6) (q := 178) dL_law_176 rfl rfl ?_
      refine wk_icmp_ge (t := 337) (q := 181) dL_law_178 rfl rfl (by omega) (by omega) (fun hc178 => ?_) (fun hc178 => ?_)
      · refine wk_del (i := 13) (lo' := [(0, _), (1, _), (2, _), (3, _), (4, _), (5, _), (6, _), (7, _), (8, _), (9, _), (10, _), (11, _), (12, _)]) rfl ?_
        refine wk_del (i := 12) (lo' := [(0, _), (1, _), (2, _), (3, _), (4, _), (5, _), (6, _), (7, _), (8, _), (9, _), (10, _), (11, _)]) rfl ?_
        exact w
      · omega
    · intro g hg ih I1 L1 R1 hW1
      have courses : ∀ c : Nat, c ≤ V.C.co.toNat → ∀ I2 L2 R2, NW E n sh x I2 L2 R2 V → Wk l E (lwY E Q b N xs) mL k j 184 [(0, .ref b), (1, .ref x), (2, .ref (x + 167)), (3, .ref (x + 168)), (4, .ref (x + 169)), (5, .int (zI cd)), (6, .int (zI V.T.ng)), (7, .ref (x + 170)), (8, .ref (x + 171)), (9, .ref (x + 172)), (10, .int (zI tn)), (11, .int (zI v11)), (12, .int (zI (sumI (evV V).pa V.T.ng.toNat))), (13, .int (zI g)), (14, .int (zI c))] [] (n, sh, I2, L2, R2) := by
        refine up_ind V.C.co.toNat ?_ ?_
        · intro I2 L2 R2 hW2
          have e1 : ((V.C.co.toNat : Nat) : Int) = V.C.co := by omega
          have a3 := hW2.2.2.1.2.2.2.1
          have w := lw_g2 (l := l) (Q := Q) (b := b) (N := N) (xs := xs) (cd := cd) (tn := tn) (v11 := v11) hk hj hL (by omega : (g : Int) < V.T.ng) ih hW2
          rw [e1]
          refine wk_iload (i := 14) (q := 186) dL_law_184 rfl rfl ?_
          refine wk_aload_n (i := 2) (q := 187) dL_law_186 rfl rfl rfl ?_
          refine wk_iconst (q := 188) dL_law_187 rfl ?_
          refine wk_iald (q := 189) dL_law_188 rfl cT (by omega) ?_
          refine wk_icmp_ge (t := 222) (q := 192) dL_law_189 rfl rfl (by omega) (by omega) (fun hc189 => ?_) (fun hc189 => ?_)
          · exact w
          · omega
        · intro c hc ihc I2 L2 R2 hW2
          have a3 := hW2.2.2.1.2.2.2.1
          refine wk_iload (i := 14) (q := 186) dL_law_184 rfl rfl ?_
          refine wk_aload_n (i := 2) (q := 187) dL_law_186 rfl rfl rfl ?_
          refine wk_iconst (q := 188) dL_law_187 rfl ?_
          refine wk_iald (q := 189) dL_law_188 rfl cT (by omega) ?_
          refine wk_icmp_ge (t := 222) (q := 192) dL_law_189 rfl rfl (by omega) (by omega) (fun hc189 => ?_) (fun hc189 => ?_)
          · omega
          · refine wk_aload_n (i := 1) (q := 193) dL_law_192 rfl rfl rfl ?_
            refine wk_iload (i := 13) (q := 195) dL_law_193 rfl rfl ?_
            refine wk_iload (i := 14) (q := 197) dL_law_195 rfl rfl ?_
            refine wk_cZ2 (q := 200) dL_law_197 rfl vl_L_65 ⟨_, _, rfl⟩ hO.ob (oc_gets hW2.1 (by omega) (by omega)) ⟨Nat.le_of_ble_eq_true rfl, Nat.le_of_ble_eq_true rfl, hk, hj⟩ (Nat.le_of_ble_eq_true rfl) (fun v197 I197 L197 R197 hv197 => ?_)
            obtain ⟨ea, hC3, fI, fR⟩ := hv197
            have hW3 := hW2.st hL hC3 ⟨rfl, rfl, rfl, rfl⟩ fI
            have er : v197 = (evV V).go c g := by
              rw [ea]
              unfold r_gets
              rw [if_pos ⟨⟨by omega, by omega⟩, by omega, by omega⟩]
            have e8 : I197 (x + 172) (7 * (c : Int) + g) = (evV V).go c g := hW3.2.2.2.2.2.2 c g (by omega) (by omega) (by omega) (by omega)
            have w := ihc I197 L197 R197 hW3
            refine wk_aload (i := 9) (q := 202) dL_law_200 rfl rfl ?_
            refine wk_bipush (q := 204) dL_law_202 rfl (by decide +kernel) ?_
            refine wk_iload (i := 14) (q := 206) dL_law_204 rfl rfl ?_
            refine wk_imul (q := 207) dL_law_206 rfl ?_
            refine wk_iload (i := 13) (q := 209) dL_law_207 rfl rfl ?_
            refine wk_iadd (q := 210) dL_law_209 rfl ?_
            refine wk_iald (q := 211) dL_law_210 rfl cO (by omega) ?_
            rw [er, e8]
            refine wk_icmp_eqS (t := 216) dL_law_211 rfl ?_
            refine wk_iinc (lo' := [(0, _), (1, _), (2, _), (3, _), (4, _), (5, _), (6, _), (7, _), (8, _), (9, _), (10, _), (11, _), (12, _), (13, _), (14, _)]) (q := 219) dL_law_216 rfl rfl (by decide) rfl ?_
            refine wk_goto (t := 184) dL_law_219 rfl ?_
            exact w
      have w := courses 0 (Nat.zero_le _) I1 L1 R1 hW1
      refine wk_iload (i := 13) (q := 176) dL_law_174 rfl rfl ?_
      refine wk_iload (i := 6) (q := 178) dL_law_176 rfl rfl ?_
      refine wk_icmp_ge (t := 337) (q := 181) dL_law_178 rfl rfl (by omega) (by omega) (fun hc178 => ?_) (fun hc178 => ?_)
      · omega
      · refine wk_iconst (q := 182) dL_law_181 rfl ?_
        refine wk_istore (i := 14) (lo' := [(0, _), (1, _), (2, _), (3, _), (4, _), (5, _), (6, _), (7, _), (8, _), (9, _), (10, _), (11, _), (12, _), (13, _), (14, _)]) (q := 184) dL_law_182 rfl (by decide) rfl ?_
        exact w
  have sums : ∀ m : Nat, m ≤ V.T.ng.toNat → Wk l E (lwY E Q b N xs) mL k j 145 [(0, .ref b), (1, .ref x), (2, .ref (x + 167)), (3, .ref (x + 168)), (4, .ref (x + 169)), (5, .int (zI cd)), (6, .int (zI V.T.ng)), (7, .ref (x + 170)), (8, .ref (x + 171)), (9, .ref (x + 172)), (10, .int (zI tn)), (11, .int (zI v11)), (12, .int (zI (sumI (evV V).pa m))), (13, .int (zI m))] [] (n, sh, I, L, R) := by
    refine up_ind V.T.ng.toNat ?_ ?_
    · have w := guests 0 (Nat.zero_le _) I L R hW0
      refine wk_iload (i := 13) (q := 147) dL_law_145 rfl rfl ?_
      refine wk_iload (i := 6) (q := 149) dL_law_147 rfl rfl ?_
      refine wk_icmp_ge (t := 171) (q := 152) dL_law_149 rfl rfl (by omega) (by omega) (fun hc149 => ?_) (fun hc149 => ?_)
      · refine wk_iconst (q := 172) dL_law_171 rfl ?_
        refine wk_istore (i := 13) (lo' := [(0, _), (1, _), (2, _), (3, _), (4, _), (5, _), (6, _), (7, _), (8, _), (9, _), (10, _), (11, _), (12, _), (13, _)]) (q := 174) dL_law_172 rfl (by decide) rfl ?_
        exact w
      · omega
    · intro m hm ih
      have e8 : I (x + 171) (7 + (m : Int)) = (evV V).pa m := (hG m (by omega) (by omega)).2.2
      refine wk_iload (i := 13) (q := 147) dL_law_145 rfl rfl ?_
      refine wk_iload (i := 6) (q := 149) dL_law_147 rfl rfl ?_
      refine wk_icmp_ge (t := 171) (q := 152) dL_law_149 rfl rfl (by omega) (by omega) (fun hc149 => ?_) (fun hc149 => ?_)
      · omega
      · refine wk_iload (i := 12) (q := 154) dL_law_152 rfl rfl ?_
        refine wk_aload (i := 8) (q := 156) dL_law_154 rfl rfl ?_
        refine wk_bipush (q := 158) dL_law_156 rfl (by decide +kernel) ?_
        refine wk_iload (i := 13) (q := 160) dL_law_158 rfl rfl ?_
        refine wk_iadd (q := 161) dL_law_160 rfl ?_
        refine wk_iald (q := 162) dL_law_161 rfl cG (by omega) ?_
        rw [e8]
        refine wk_iadd (q := 163) dL_law_162 rfl ?_
        refine wk_istore (i := 12) (lo' := [(0, _), (1, _), (2, _), (3, _), (4, _), (5, _), (6, _), (7, _), (8, _), (9, _), (10, _), (11, _), (12, _), (13, _)]) (q := 165) dL_law_163 rfl (by decide) rfl ?_
        refine wk_iinc (lo' := [(0, _), (1, _), (2, _), (3, _), (4, _), (5, _), (6, _), (7, _), (8, _), (9, _), (10, _), (11, _), (12, _), (13, _)]) (q := 168) dL_law_165 rfl rfl (by decide) rfl ?_
        refine wk_goto (t := 145) dL_law_168 rfl ?_
        exact ih
  have w := sums 0 (Nat.zero_le _)
  refine wk_iconst (q := 140) dL_law_139 rfl ?_
  refine wk_istore (i := 12) (lo' := [(0, _), (1, _), (2, _), (3, _), (4, _), (5, _), (6, _), (7, _), (8, _), (9, _), (10, _), (11, _), (12, _)]) (q := 142) dL_law_140 rfl (by decide) rfl ?_
  refine wk_iconst (q := 143) dL_law_142 rfl ?_
  refine wk_istore (i := 13) (lo' := [(0, _), (1, _), (2, _), (3, _), (4, _), (5, _), (6, _), (7, _), (8, _), (9, _), (10, _), (11, _), (12, _), (13, _)]) (q := 145) dL_law_143 rfl (by decide) rfl ?_
  exact w
end LAW2
