/-! THE LAW: the evening's row is told and judged -/
/-- what sheet 1 holds: the evening's row, m places of it -/
def RS (V V' : VV) (m : Int) : Prop := sameV V V' ∧ V'.th 1 = 1 ∧ V'.so 1 = 2 ∧ V'.sl 1 = 58 ∧ ∀ i, 0 ≤ i → i < m → V'.ce 1 (1 + i) = (evV V).go (i / V.T.ng) (tgt V.C (i % V.T.ng))
theorem go_in {V : VV} (hT : V.T.ok) (hN : V.C.now V.T) {c g : Int} (c0 : 0 ≤ c) (c1 : c < V.C.co) (g0 : 0 ≤ g) (g1 : g < V.T.ng) : (evV V).go c g = -9 ∨ (0 ≤ (evV V).go c g ∧ (evV V).go c g < V.T.nd) := by
  have hCo := hN.1
  have hst : V.C.st < V.C.se := by
    have := hCo.2.2.2.1
    have := hN.2.1
    omega
  obtain ⟨s, s0, s1, s2⟩ := hN.all g0 g1
  have e := evE_go (la := V.la) hCo hst (c := c.toNat) (s := s.toNat) (by omega) (by omega)
  rw [show ((c.toNat : Nat) : Int) = c by omega, show ((s.toNat : Nat) : Int) = s by omega, s2] at e
  have h := askD_in hT V.C c s (askN V.T V.C c s.toNat (crsN V.T V.C c.toNat (ev0 V.T V.la)))
  rw [← e] at h
  exact h.elim Or.inl (fun q => Or.inr ⟨q.1, q.2.1⟩)
theorem row_ix {z n m : Int} {c : Int} (hn : 0 < n) (hz : z = c * n) (h0 : 0 ≤ m) (h1 : m < z) : (0 ≤ m / n ∧ m / n < c) ∧ 0 ≤ m % n ∧ m % n < n :=
  ⟨⟨Int.ediv_nonneg h0 (by omega), Int.ediv_lt_of_lt_mul hn (by omega)⟩, Int.emod_nonneg _ (by omega), Int.emod_lt_of_pos _ hn⟩
theorem row_z {c n : Int} (hc : 1 ≤ c ∧ c ≤ 8) (hn : 2 ≤ n ∧ n ≤ 7) : 1 ≤ c * n ∧ c * n ≤ 56 := by
  have h1 : c * n ≤ 8 * 7 := Int.mul_le_mul hc.2 hn.2 (by omega) (by omega)
  have h2 : 1 * 1 ≤ c * n := Int.mul_le_mul hc.1 (by omega) (by omega) (by omega)
  omega
theorem refR_z {V : VV} {k so i z : Int} (hk : 0 ≤ k ∧ k < 4) (hs : 0 ≤ so ∧ so ≤ 2) (h1 : V.th k = 1) (h2 : V.so k = so) (hz : 0 ≤ z) (hi : 0 ≤ i ∧ i ≤ V.sl k ∧ z ≤ V.sl k - i) : refR V k so i z = 0 := by
  unfold refR
  rw [if_neg (by omega), if_neg (by omega), if_neg (fun q => q h1), if_neg (fun q => q h2), if_neg (by omega), if_pos hi]
/-- the row of the evening is right -/
theorem row_right {V V' : VV} (hp : 0 < V.T.ng) (hok : V'.ok) (h : RS V V' (V.C.co * V.T.ng)) : r_judge V' 1 2 1 (V.C.co * V.T.ng) = -9 := by
  obtain ⟨hV, h1, h2, h3, h4⟩ := h
  obtain ⟨v1, v2, v3, v4⟩ := id hV
  obtain ⟨hT, hN, hLA⟩ := hok.tab (by rw [v1]; exact hp)
  have hco : 1 ≤ V.C.co ∧ V.C.co ≤ 8 := by
    rw [← v2]
    exact ⟨hN.1.2.2.2.2.1, hN.1.2.2.2.2.2.1⟩
  have hng : 2 ≤ V.T.ng ∧ V.T.ng ≤ 7 := by
    rw [← v1]
    exact ⟨hT.1, hT.2.1⟩
  have hz := row_z hco hng
  have hr := refR_z (V := V') (k := 1) (so := 2) (i := 1) (z := V.C.co * V.T.ng) (by omega) (by omega) h1 h2 (by omega) (by omega)
  have hz2 : (V.C.co * V.T.ng).toNat = V'.C.co.toNat * V'.T.ng.toNat + 0 := by
    rw [v1, v2, Nat.add_zero]
    apply Int.ofNat.inj
    show (((V.C.co * V.T.ng).toNat : Nat) : Int) = ((V.C.co.toNat * V.T.ng.toNat : Nat) : Int)
    rw [Int.natCast_mul, show ((V.C.co.toNat : Nat) : Int) = V.C.co by omega, show ((V.T.ng.toNat : Nat) : Int) = V.T.ng by omega]
    omega
  have hjc : ∀ m : Int, 0 ≤ m → m < V.C.co * V.T.ng → jc V' 1 1 m = (evV V).go (m / V.T.ng) (tgt V.C (m % V.T.ng)) := fun m m0 m1 => h4 m m0 m1
  have hg : ∀ m : Int, 0 ≤ m → m < V.C.co * V.T.ng → jc V' 1 1 m = -9 ∨ (0 ≤ jc V' 1 1 m ∧ jc V' 1 1 m < V'.T.nd) := by
    intro m m0 m1
    obtain ⟨⟨d0, d1⟩, r0, r1⟩ := row_ix (c := V.C.co) (by omega : 0 < V.T.ng) rfl m0 m1
    rw [hjc m m0 m1, ← hV.ev]
    have ht := tgt_in hN.1 (m % V.T.ng)
    rw [v2] at ht
    exact go_in hT hN d0 (by rw [v2]; exact d1) ht.1 ht.2
  have hb : badN V' 1 1 (V.C.co * V.T.ng).toNat = 0 := badN_zero _ (fun m hm => hg m (by omega) (by omega))
  have hj := (jud_right (V := V') (k := 1) (i := 1) hT hN (fun c s hc hs => by
    have hc' : (c : Int) < V.C.co := by rw [← v2]; exact hc
    have hs' : (s : Int) < V.T.ng := by rw [← v1]; exact hs
    have e : ((c * V'.T.ng.toNat + s : Nat) : Int) = (c : Int) * V.T.ng + s := by
      rw [Int.natCast_add, Int.natCast_mul, v1, show ((V.T.ng.toNat : Nat) : Int) = V.T.ng by omega]
    have hm : (c : Int) * V.T.ng + s < V.C.co * V.T.ng := by
      have q : ((c : Int) + 1) * V.T.ng ≤ V.C.co * V.T.ng := Int.mul_le_mul_of_nonneg_right (by omega) (by omega)
      rw [Int.add_mul] at q
      omega
    have hm0 : 0 ≤ (c : Int) * V.T.ng := Int.mul_nonneg (by omega) (by omega)
    have dx := div_ix (n := V.T.ng) (c := c) (s := s) (by omega) ⟨by omega, hs'⟩
    rw [e, hjc _ (by omega) hm, dx.1, dx.2, hV.ev, v2]) V'.C.co.toNat (by rw [v2]; omega) 0 (by rw [v1]; omega) (Or.inr rfl)).2
  unfold r_judge
  rw [if_neg (fun q => q hr), if_neg (by rw [v1]; omega), if_neg (by rw [v1, v2]; omega), if_neg (by omega), hz2]
  exact hj
section LAW3
variable {l : Launch} {E : qEv} {Q : List Frame → Array Value → State → State → Prop} {b N : Nat} {xs : Nat → Int32} {n : Nat} {sh : qSh} {x k j : Nat} {cd tn : Int}
theorem lw_t3 {V : VV} {v11 : Int} (hk : k ≤ 600000) (hj : j ≤ 7302250) (hL : LC E.2.2 n sh x) (K : ∀ I1 L1 R1 V1, NW E n sh x I1 L1 R1 V1 → RS V V1 (V.C.co * V.T.ng) → Wk l E (lwY E Q b N xs) mL k j 448 [(0, .ref b), (1, .ref x), (2, .ref (x + 167)), (3, .ref (x + 168)), (4, .ref (x + 169)), (5, .int (zI cd)), (6, .int (zI V.T.ng)), (7, .ref (x + 170)), (8, .ref (x + 171)), (9, .ref (x + 172)), (10, .int (zI tn)), (11, .int (zI v11)), (13, .int (zI (V.C.co * V.T.ng)))] [] (n, sh, I1, L1, R1)) {I L : qI} {R : qR} (hW : NW E n sh x I L R V) :
    Wk l E (lwY E Q b N xs) mL k j 337 [(0, .ref b), (1, .ref x), (2, .ref (x + 167)), (3, .ref (x + 168)), (4, .ref (x + 169)), (5, .int (zI cd)), (6, .int (zI V.T.ng)), (7, .ref (x + 170)), (8, .ref (x + 171)), (9, .ref (x + 172)), (10, .int (zI tn)), (11, .int (zI v11))] [] (n, sh, I, L, R) := by
  obtain ⟨cT, cW, cU, cP, cG, cO⟩ := id hL
  have hW0 := hW
  obtain ⟨hC, hp, hA, hz, hB, hG, hGo⟩ := hW
  have hO := hC.isX
  obtain ⟨hT, hNo, hLA⟩ := hC.okk.tab hp
  have hn2 := hT.1
  have hn7 := hT.2.1
  have hd6 := hT.2.2.2.1
  have hco : V.C.co ≤ 8 := hNo.1.2.2.2.2.2.1
  have hco1 : 1 ≤ V.C.co := hNo.1.2.2.2.2.1
  have hst : 1 ≤ V.C.st ∧ V.C.st < V.T.ng := ⟨hNo.1.2.2.1, hNo.1.2.2.2.1⟩
  have zz := row_z ⟨hco1, hco⟩ ⟨hn2, hn7⟩
  have a3 := hA.2.2.2.1
  have puts : ∀ m : Nat, m ≤ (V.C.co * V.T.ng).toNat → ∀ I1 L1 R1 V1, NW E n sh x I1 L1 R1 V1 → RS V V1 m → Wk l E (lwY E Q b N xs) mL k j 362 [(0, .ref b), (1, .ref x), (2, .ref (x + 167)), (3, .ref (x + 168)), (4, .ref (x + 169)), (5, .int (zI cd)), (6, .int (zI V.T.ng)), (7, .ref (x + 170)), (8, .ref (x + 171)), (9, .ref (x + 172)), (10, .int (zI tn)), (11, .int (zI v11)), (13, .int (zI (V.C.co * V.T.ng))), (14, .int (zI m))] [] (n, sh, I1, L1, R1) := by
    refine up_ind (V.C.co * V.T.ng).toNat ?_ ?_
    · intro I1 L1 R1 V1 hW1 hR1
      rw [show (((V.C.co * V.T.ng).toNat : Nat) : Int) = V.C.co * V.T.ng by omega] at hR1 ⊢
      have rr := row_right hp hW1.1.okk hR1
      obtain ⟨hV, h1, h2, h3, h4⟩ := id hR1
      have r0 : r_judge V1 1 2 1 0 = -9 := by
        have hr := refR_z (V := V1) (k := 1) (so := 2) (i := 1) (z := 0) (by omega) (by omega) h1 h2 (by omega) (by omega)
        unfold r_judge
        rw [if_neg (fun q => q hr), if_neg (by rw [hV.1]; omega), if_neg (by rw [hV.1, hV.2.1]; omega)]
        rfl
      refine wk_iload (i := 14) (q := 364) dL_law_362 rfl rfl ?_
      refine wk_iload (i := 13) (q := 366) dL_law_364 rfl rfl ?_
      refine wk_icmp_ge (t := 419) (q := 369) dL_law_366 rfl rfl (by omega) (by omega) (fun hc366 => ?_) (fun hc366 => ?_)
      · refine wk_aload_n (i := 1) (q := 420) dL_law_419 rfl rfl rfl ?_
        refine wk_iconst (q := 421) dL_law_420 rfl ?_
        refine wk_iconst (q := 422) dL_law_421 rfl ?_
        refine wk_iconst (q := 423) dL_law_422 rfl ?_
        refine wk_iload (i := 13) (q := 425) dL_law_423 rfl rfl ?_
        refine wk_cZ4 (q := 428) dL_law_425 rfl vl_L_82 ⟨_, _, rfl⟩ hO.ob (oc_judge hW1.1 (by decide) (by decide) (by decide) (by omega)) ⟨Nat.le_of_ble_eq_true rfl, Nat.le_of_ble_eq_true rfl, hk, hj⟩ (Nat.le_of_ble_eq_true rfl) (fun v425 I425 L425 R425 hv425 => ?_)
        obtain ⟨ea, hC2, fI, fR⟩ := hv425
        have hW2 := hW1.st hL hC2 ⟨rfl, rfl, rfl, rfl⟩ fI
        rw [rr] at ea
        refine wk_bipush (q := 430) dL_law_428 rfl (by decide +kernel) ?_
        refine wk_icmp_ne (t := 446) (q := 433) dL_law_430 rfl rfl (by omega) (by omega) (fun hc430 => ?_) (fun hc430 => ?_)
        · omega
        · refine wk_aload_n (i := 1) (q := 434) dL_law_433 rfl rfl rfl ?_
          refine wk_iconst (q := 435) dL_law_434 rfl ?_
          refine wk_iconst (q := 436) dL_law_435 rfl ?_
          refine wk_iconst (q := 437) dL_law_436 rfl ?_
          refine wk_iconst (q := 438) dL_law_437 rfl ?_
          refine wk_cZ4 (q := 441) dL_law_438 rfl vl_L_82 ⟨_, _, rfl⟩ hO.ob (oc_judge hC2 (by decide) (by decide) (by decide) (by decide)) ⟨Nat.le_of_ble_eq_true rfl, Nat.le_of_ble_eq_true rfl, hk, hj⟩ (Nat.le_of_ble_eq_true rfl) (fun v438 I438 L438 R438 hv438 => ?_)
          obtain ⟨eb, hC3, gI, gR⟩ := hv438
          have hW3 := hW2.st hL hC3 ⟨rfl, rfl, rfl, rfl⟩ gI
          have eb' : v438 = -9 := eb.trans r0
          refine wk_bipush (q := 443) dL_law_441 rfl (by decide +kernel) ?_
          refine wk_icmp_eq (t := 448) (q := 446) dL_law_443 rfl rfl (by omega) (by omega) (fun hc443 => ?_) (fun hc443 => ?_)
          · refine wk_del (i := 14) (lo' := [(0, _), (1, _), (2, _), (3, _), (4, _), (5, _), (6, _), (7, _), (8, _), (9, _), (10, _), (11, _), (13, _)]) rfl ?_
            exact K _ _ _ _ hW3 hR1
          · omega
      · omega
    · intro m hm ih I1 L1 R1 V1 hW1 hR1
      obtain ⟨hV, h1, h2, h3, h4⟩ := id hR1
      obtain ⟨⟨d0, d1⟩, r0, r1⟩ := row_ix (m := (m : Int)) (c := V.C.co) (by omega : 0 < V.T.ng) rfl (by omega) (by omega)
      have ht := tgt_in hNo.1 ((m : Int) % V.T.ng)
      have hgo := go_in hT hNo d0 d1 ht.1 ht.2
      obtain ⟨b0, b1, b2, b3, b4, b5, b6⟩ := hW1.2.2.1
      rw [hV.1, hV.2.1] at b5
      have e2 : I1 (x + 167) 2 = V.C.st := by rw [b2, hV.2.1]
      have ix := tgt_ix hNo.1 (s := (m : Int) % V.T.ng)
      rw [hNo.2.1] at ix
      have et : I1 (x + 167) (37 + ((m : Int) % V.T.ng + V.C.st) % V.T.ng) = tgt V.C ((m : Int) % V.T.ng) := by
        rw [(b5 _ ix.1 ix.2).2.2.2.1]
        unfold tgt
        rw [hNo.2.1]
      have eg : I1 (x + 172) (7 * ((m : Int) / V.T.ng) + tgt V.C ((m : Int) % V.T.ng)) = (evV V).go ((m : Int) / V.T.ng) (tgt V.C ((m : Int) % V.T.ng)) := by
        rw [← hV.ev]
        exact hW1.2.2.2.2.2.2 _ _ d0 (by rw [hV.2.1]; exact d1) ht.1 (by rw [hV.1]; exact ht.2)
      refine wk_iload (i := 14) (q := 364) dL_law_362 rfl rfl ?_
      refine wk_iload (i := 13) (q := 366) dL_law_364 rfl rfl ?_
      refine wk_icmp_ge (t := 419) (q := 369) dL_law_366 rfl rfl (by omega) (by omega) (fun hc366 => ?_) (fun hc366 => ?_)
      · omega
      · refine wk_aload_n (i := 1) (q := 370) dL_law_369 rfl rfl rfl ?_
        refine wk_iconst (q := 371) dL_law_370 rfl ?_
        refine wk_iconst (q := 372) dL_law_371 rfl ?_
        refine wk_iload (i := 14) (q := 374) dL_law_372 rfl rfl ?_
        refine wk_iadd (q := 375) dL_law_374 rfl ?_
        refine wk_aload (i := 9) (q := 377) dL_law_375 rfl rfl ?_
        refine wk_bipush (q := 379) dL_law_377 rfl (by decide +kernel) ?_
        refine wk_iload (i := 14) (q := 381) dL_law_379 rfl rfl ?_
        refine wk_iload (i := 6) (q := 383) dL_law_381 rfl rfl ?_
        refine wk_idiv (q := 384) dL_law_383 rfl (by omega) (by omega) ?_
        refine wk_imul (q := 385) dL_law_384 rfl ?_
        refine wk_aload_n (i := 2) (q := 386) dL_law_385 rfl rfl rfl ?_
        refine wk_bipush (q := 388) dL_law_386 rfl (by decide +kernel) ?_
        refine wk_iload (i := 14) (q := 390) dL_law_388 rfl rfl ?_
        refine wk_iload (i := 6) (q := 392) dL_law_390 rfl rfl ?_
        refine wk_irem (q := 393) dL_law_392 rfl (by omega) (by omega) ?_
        refine wk_aload_n (i := 2) (q := 394) dL_law_393 rfl rfl rfl ?_
        refine wk_iconst (q := 395) dL_law_394 rfl ?_
        refine wk_iald (q := 396) dL_law_395 rfl cT (by omega) ?_
        rw [e2]
        refine wk_iadd (q := 397) dL_law_396 rfl ?_
        refine wk_iload (i := 6) (q := 399) dL_law_397 rfl rfl ?_
        refine wk_irem (q := 400) dL_law_399 rfl (by omega) (by omega) ?_
        refine wk_iadd (q := 401) dL_law_400 rfl ?_
        refine wk_iald (q := 402) dL_law_401 rfl cT (by omega) ?_
        rw [et]
        refine wk_iadd (q := 403) dL_law_402 rfl ?_
        refine wk_iald (q := 404) dL_law_403 rfl cO (by omega) ?_
        rw [eg]
        refine wk_cZ3 (q := 407) dL_law_404 rfl vl_L_25 ⟨_, _, rfl⟩ hO.ob (oc_put hW1.1 (by decide) (by omega) (by omega)) ⟨Nat.le_of_ble_eq_true rfl, Nat.le_of_ble_eq_true rfl, hk, hj⟩ (Nat.le_of_ble_eq_true rfl) (fun v404 I404 L404 R404 hv404 => ?_)
        obtain ⟨ea, hC2, fI, fR⟩ := hv404
        have er : v404 = 1 := by
          rw [ea]
          unfold r_put
          rw [if_neg (by omega), if_neg (fun z => z h1), if_pos (by omega)]
        have es : s_put V1 1 (1 + m) ((evV V).go ((m : Int) / V.T.ng) (tgt V.C ((m : Int) % V.T.ng))) = (V1.setFa 0).setSh V1.th V1.so V1.sl (u2 V1.ce 1 (1 + m) ((evV V).go ((m : Int) / V.T.ng) (tgt V.C ((m : Int) % V.T.ng)))) := by
          unfold s_put
          rw [if_neg (by omega), if_neg (fun z => z h1), if_pos (by omega)]
          unfold cutS
          rw [h2, if_neg (by decide), if_neg (by decide)]
        rw [es] at hC2
        have hW2 := hW1.st hL hC2 ⟨rfl, rfl, rfl, rfl⟩ fI
        refine wk_iconst (q := 408) dL_law_407 rfl ?_
        refine wk_icmp_eq (t := 413) (q := 411) dL_law_408 rfl rfl (by omega) (by omega) (fun hc408 => ?_) (fun hc408 => ?_)
        · refine wk_iinc (lo' := [(0, _), (1, _), (2, _), (3, _), (4, _), (5, _), (6, _), (7, _), (8, _), (9, _), (10, _), (11, _), (13, _), (14, _)]) (q := 416) dL_law_413 rfl rfl (by decide) rfl ?_
          refine wk_goto (t := 362) dL_law_416 rfl ?_
          have w := ih I404 L404 R404 _ hW2 ⟨hV, h1, h2, h3, fun i i0 i1 => ?_⟩
          · exact w
          · show u2 V1.ce 1 (1 + m) _ 1 (1 + i) = _
            by_cases q : i = m
            · rw [q, u2_eq]
            · rw [u2_ne (Or.inr (by omega))]
              exact h4 i i0 (by omega)
        · omega
  refine wk_aload_n (i := 2) (q := 338) dL_law_337 rfl rfl rfl ?_
  refine wk_iconst (q := 339) dL_law_338 rfl ?_
  refine wk_iald (q := 340) dL_law_339 rfl cT (by omega) ?_
  rw [a3]
  refine wk_iload (i := 6) (q := 342) dL_law_340 rfl rfl ?_
  refine wk_imul (q := 343) dL_law_342 rfl ?_
  refine wk_istore (i := 13) (lo' := [(0, _), (1, _), (2, _), (3, _), (4, _), (5, _), (6, _), (7, _), (8, _), (9, _), (10, _), (11, _), (13, _)]) (q := 345) dL_law_343 rfl (by decide) rfl ?_
  refine wk_aload_n (i := 1) (q := 346) dL_law_345 rfl rfl rfl ?_
  refine wk_iconst (q := 347) dL_law_346 rfl ?_
  refine wk_iconst (q := 348) dL_law_347 rfl ?_
  refine wk_bipush (q := 350) dL_law_348 rfl (by decide +kernel) ?_
  refine wk_cZ3 (q := 353) dL_law_350 rfl vl_L_19 ⟨_, _, rfl⟩ hO.ob (oc_sheet hC (by decide) (by decide) (by decide)) ⟨Nat.le_of_ble_eq_true rfl, Nat.le_of_ble_eq_true rfl, hk, hj⟩ (Nat.le_of_ble_eq_true rfl) (fun v350 I350 L350 R350 hv350 => ?_)
  obtain ⟨ea, hC2, fI, fR⟩ := hv350
  have er : v350 = 1 := ea.trans (by decide)
  have es : s_sheet V 1 2 58 = (V.setFa 0).setSh (u1 V.th 1 1) (u1 V.so 1 2) (u1 V.sl 1 58) (fun a i => if a = 1 then 0 else V.ce a i) := by
    unfold s_sheet
    rw [if_neg (by decide), if_neg (by decide), if_neg (by decide)]
  rw [es] at hC2
  have hW2 := hW0.st hL hC2 ⟨rfl, rfl, rfl, rfl⟩ fI
  refine wk_iconst (q := 354) dL_law_353 rfl ?_
  refine wk_icmp_eq (t := 359) (q := 357) dL_law_354 rfl rfl (by omega) (by omega) (fun hc354 => ?_) (fun hc354 => ?_)
  · refine wk_iconst (q := 360) dL_law_359 rfl ?_
    refine wk_istore (i := 14) (lo' := [(0, _), (1, _), (2, _), (3, _), (4, _), (5, _), (6, _), (7, _), (8, _), (9, _), (10, _), (11, _), (13, _), (14, _)]) (q := 362) dL_law_360 rfl (by decide) rfl ?_
    exact puts 0 (Nat.zero_le _) _ _ _ _ hW2 ⟨⟨rfl, rfl, rfl, rfl⟩, (show u1 V.th 1 1 1 = 1 from u1_eq _ _ _), (show u1 V.so 1 2 1 = 2 from u1_eq _ _ _), (show u1 V.sl 1 58 1 = 58 from u1_eq _ _ _), fun i i0 i1 => absurd i1 (by omega)⟩
  · omega
end LAW3
