/-! THE LAW's put: guests, dishes, all of it -/
section PUT3
variable {l : Launch} {E : qEv} {n : Nat} {sh : qSh} {I : qI}
theorem pt_guest {b N : Nat} {xs : Nat → Int32} {x : Nat} {ng nd v7 : Int} {g : Nat} (hL : N ≤ 260) (hO : isX E.2.2 n sh x) (cT : isC E.2.2 n sh (x + 167) 0 51) (cW : isC E.2.2 n sh (x + 168) 0 42) (cU : isC E.2.2 n sh (x + 169) 0 42) (hng : 2 ≤ ng ∧ ng ≤ 7) (hnd : 2 ≤ nd ∧ nd ≤ 6) (hg : (g : Int) < ng)
    (K : ∀ I1 L1 R1 c, PB E.2.2 n sh x I1 L1 R1 c → (∀ q i, (q < x ∨ x + 170 ≤ q) → I1 q i = I q i) → DI I1 x c ng nd nd → GI I1 x c nd (g + 1) → Wk l E (qmoS E 3 n 0 0 (qZ n sh (fun v I' L' R' => ∃ c ng nd, (2 ≤ ng ∧ ng ≤ 7) ∧ (2 ≤ nd ∧ nd ≤ 6) ∧ DI I' x c ng nd nd ∧ GI I' x c nd ng.toNat ∧ v = pos (kdf I' x) nd ng.toNat ∧ PB E.2.2 n sh x I' L' R' c ∧ ∀ q i, (q < x ∨ x + 170 ≤ q) → I' q i = I q i)) b N xs) mL_put 0 0 228 [(0, .ref x), (1, .ref b), (2, .int (zI 0)), (3, .int (zI 7)), (4, .ref (x + 167)), (5, .ref (x + 168)), (6, .ref (x + 169)), (7, .int (zI v7)), (8, .int (zI (pos (kdf I1 x) nd (g + 1)))), (9, .int (zI ((g : Int) + 1)))] [] (n, sh, I1, L1, R1))
    {I1 L1 : qI} {R1 : qR} {c : Int → Int} (PBh : PB E.2.2 n sh x I1 L1 R1 c) (FR : ∀ q i, (q < x ∨ x + 170 ≤ q) → I1 q i = I q i) (hD : DI I1 x c ng nd nd) (hG : GI I1 x c nd g) : Wk l E (qmoS E 3 n 0 0 (qZ n sh (fun v I' L' R' => ∃ c ng nd, (2 ≤ ng ∧ ng ≤ 7) ∧ (2 ≤ nd ∧ nd ≤ 6) ∧ DI I' x c ng nd nd ∧ GI I' x c nd ng.toNat ∧ v = pos (kdf I' x) nd ng.toNat ∧ PB E.2.2 n sh x I' L' R' c ∧ ∀ q i, (q < x ∨ x + 170 ≤ q) → I' q i = I q i)) b N xs) mL_put 0 0 228 [(0, .ref x), (1, .ref b), (2, .int (zI 0)), (3, .int (zI 7)), (4, .ref (x + 167)), (5, .ref (x + 168)), (6, .ref (x + 169)), (7, .int (zI v7)), (8, .int (zI (pos (kdf I1 x) nd g))), (9, .int (zI g))] [] (n, sh, I1, L1, R1) := by
  have pp := pos_in (kd := kdf I1 x) hnd g
  obtain ⟨p, hp⟩ : ∃ p, p = pos (kdf I1 x) nd g := ⟨_, rfl⟩
  rw [← hp] at pp
  have key := fun v10 => pt_worth (l := l) (E := E) (n := n) (sh := sh) (I := I) (xs := xs) (v7 := v7) (v10 := v10) (p := p) hL hO cT cW cU hng hnd hg ⟨by omega, by omega⟩ (fun I3 L3 R3 c3 v11 b1 b2 b3 b4 b5 b6 b7 => by
    have hG3 : GI I3 x c3 nd (g + 1) := fun i hi => by
      by_cases e : i = g
      · rw [e, b5]
        exact ⟨b6, b7⟩
      · exact b4 i (by omega)
    have k3 := K I3 L3 R3 c3 b1 b2 b3 hG3
    have e3 : pos (kdf I3 x) nd (g + 1) = p + 3 + x2 (I3 (x + 167) (16 + g)) + nd := by rw [← b5]; rfl
    rw [e3] at k3
    refine wk_iinc (lo' := [(0, _), (1, _), (2, _), (3, _), (4, _), (5, _), (6, _), (7, _), (8, _), (9, _), (10, _), (11, _)]) (q := 617) dL_put_614 rfl rfl (by decide) rfl ?_
    refine wk_goto (t := 228) dL_put_617 rfl ?_
    refine wk_del (i := 11) (lo' := [(0, _), (1, _), (2, _), (3, _), (4, _), (5, _), (6, _), (7, _), (8, _), (9, _), (10, _)]) rfl ?_
    refine wk_del (i := 10) (lo' := [(0, _), (1, _), (2, _), (3, _), (4, _), (5, _), (6, _), (7, _), (8, _), (9, _)]) rfl ?_
    exact k3
  )
  -- from 391 on: the letter is put
  have j466 : ∀ (v10 : Int) (I2 L2 : qI) (R2 : qR) (c2 : Int → Int), PB E.2.2 n sh x I2 L2 R2 c2 → (∀ q i, (q < x ∨ x + 170 ≤ q) → I2 q i = I q i) → DI I2 x c2 ng nd nd → GI I2 x c2 nd g → pos (kdf I2 x) nd g = p → GTd I2 x c2 g p 0 → Wk l E (qmoS E 3 n 0 0 (qZ n sh (fun v I' L' R' => ∃ c ng nd, (2 ≤ ng ∧ ng ≤ 7) ∧ (2 ≤ nd ∧ nd ≤ 6) ∧ DI I' x c ng nd nd ∧ GI I' x c nd ng.toNat ∧ v = pos (kdf I' x) nd ng.toNat ∧ PB E.2.2 n sh x I' L' R' c ∧ ∀ q i, (q < x ∨ x + 170 ≤ q) → I' q i = I q i)) b N xs) mL_put 0 0 466 [(0, .ref x), (1, .ref b), (2, .int (zI 0)), (3, .int (zI 7)), (4, .ref (x + 167)), (5, .ref (x + 168)), (6, .ref (x + 169)), (7, .int (zI v7)), (8, .int (zI (p + 3 + x2 (I2 (x + 167) (16 + g))))), (9, .int (zI g)), (10, .int (zI v10))] [] (n, sh, I2, L2, R2) := by
    intro v10 I2 L2 R2 c2 b1 b2 b3 b4 b5 b6
    have k0 := key v10 0 (Nat.zero_le _) I2 L2 R2 c2 0 b1 b2 b3 b4 b5 b6 (Or.inr ⟨rfl, by omega⟩)
    rw [show p + 3 + x2 (I2 (x + 167) (16 + (g : Int))) + ((0 : Nat) : Int) = p + 3 + x2 (I2 (x + 167) (16 + (g : Int))) by omega] at k0
    refine wk_iconst (q := 467) dL_put_466 rfl ?_
    refine wk_istore (i := 11) (lo' := [(0, _), (1, _), (2, _), (3, _), (4, _), (5, _), (6, _), (7, _), (8, _), (9, _), (10, _), (11, _)]) (q := 469) dL_put_467 rfl (by decide) rfl ?_
    refine wk_iconst (q := 470) dL_put_469 rfl ?_
    refine wk_istore (i := 12) (lo' := [(0, _), (1, _), (2, _), (3, _), (4, _), (5, _), (6, _), (7, _), (8, _), (9, _), (10, _), (11, _), (12, _)]) (q := 472) dL_put_470 rfl (by decide) rfl ?_
    exact k0
  have j333 : ∀ (v10 kd kn ct : Int) (I2 : qI), (0 ≤ kd ∧ kd < 3) → (0 ≤ kn ∧ kn < 10) → (0 ≤ ct ∧ ct < 10) → (kd ≠ 2 → ct = 0) → I2 = up (up (up (up (up I1 (x + 167) (16 + g) kd) (x + 167) (23 + g) kn) (x + 167) (30 + g) ct) (x + 167) (37 + g) g) (x + 167) (44 + g) (-8) → Wk l E (qmoS E 3 n 0 0 (qZ n sh (fun v I' L' R' => ∃ c ng nd, (2 ≤ ng ∧ ng ≤ 7) ∧ (2 ≤ nd ∧ nd ≤ 6) ∧ DI I' x c ng nd nd ∧ GI I' x c nd ng.toNat ∧ v = pos (kdf I' x) nd ng.toNat ∧ PB E.2.2 n sh x I' L' R' c ∧ ∀ q i, (q < x ∨ x + 170 ≤ q) → I' q i = I q i)) b N xs) mL_put 0 0 333 [(0, .ref x), (1, .ref b), (2, .int (zI 0)), (3, .int (zI 7)), (4, .ref (x + 167)), (5, .ref (x + 168)), (6, .ref (x + 169)), (7, .int (zI v7)), (8, .int (zI p)), (9, .int (zI g)), (10, .int (zI v10))] [] (n, sh, I2, L1, R1) := by
    intro v10 kd kn ct I2 hkd hkn hct hk2 hI2
    have fO : ∀ q i, q ≠ x + 167 → I2 q i = I1 q i := fun q i z => by rw [hI2, up_na _ _ _ _ z, up_na _ _ _ _ z, up_na _ _ _ _ z, up_na _ _ _ _ z, up_na _ _ _ _ z]
    have fT : ∀ i, i ≠ 16 + (g : Int) → i ≠ 23 + (g : Int) → i ≠ 30 + (g : Int) → i ≠ 37 + (g : Int) → i ≠ 44 + (g : Int) → I2 (x + 167) i = I1 (x + 167) i := fun i z1 z2 z3 z4 z5 => by rw [hI2, up_ni _ _ z5, up_ni _ _ z4, up_ni _ _ z3, up_ni _ _ z2, up_ni _ _ z1]
    have a1 : I2 (x + 167) (16 + (g : Int)) = kd := by rw [hI2, up_ni _ _ (by omega), up_ni _ _ (by omega), up_ni _ _ (by omega), up_ni _ _ (by omega), up_eq]
    have a2 : I2 (x + 167) (23 + (g : Int)) = kn := by rw [hI2, up_ni _ _ (by omega), up_ni _ _ (by omega), up_ni _ _ (by omega), up_eq]
    have a3 : I2 (x + 167) (30 + (g : Int)) = ct := by rw [hI2, up_ni _ _ (by omega), up_ni _ _ (by omega), up_eq]
    have a4 : I2 (x + 167) (37 + (g : Int)) = g := by rw [hI2, up_ni _ _ (by omega), up_eq]
    have a5 : I2 (x + 167) (44 + (g : Int)) = -8 := by rw [hI2, up_eq]
    have PB2 := PBh.frm (I' := I2) (fun c i q => fO c i (by omega))
    clear hI2
    -- any heap that agrees behind the puts, any text that agrees before p
    have pos2 : ∀ I3 : qI, (∀ i, I3 (x + 167) i = I2 (x + 167) i) → pos (kdf I3 x) nd g = p := fun I3 h3 => (pos_cg g (fun k k0 k1 => (h3 _).trans (fT _ (by omega) (by omega) (by omega) (by omega) (by omega)))).trans hp.symm
    have D2 : ∀ (I3 : qI) (c3 : Int → Int), (∀ i, I3 (x + 167) i = I2 (x + 167) i) → (∀ i, i < p → c3 i = c i) → DI I3 x c3 ng nd nd := fun I3 c3 h3 h4 => hD.st (by omega) (fun i i0 i1 => (h3 i).trans (fT i (by omega) (by omega) (by omega) (by omega) (by omega))) (fun i i0 i1 => h4 i (by omega))
    have G2 : ∀ (I3 : qI) (c3 : Int → Int), (∀ q i, x + 167 ≤ q → I3 q i = I2 q i) → (∀ i, i < p → c3 i = c i) → GI I3 x c3 nd g := fun I3 c3 h3 h4 => hG.st hnd (by omega) (fun k k0 k1 i hi => (h3 _ i (by omega)).trans (fT i (by omega) (by omega) (by omega) (by omega) (by omega))) (fun i i0 i1 => ⟨(h3 _ i (by omega)).trans (fO _ i (by omega)), (h3 _ i (by omega)).trans (fO _ i (by omega))⟩) (fun i i0 i1 => h4 i (by omega))
    have hX := x2_in kd
    have hLt := lett_in kd ⟨by omega, by omega⟩
    have j391 : ∀ (I3 L3 : qI) (R3 : qR) (c3 : Int → Int), PB E.2.2 n sh x I3 L3 R3 c3 → (∀ q i, (q < x ∨ x + 167 ≤ q) → I3 q i = I2 q i) → (∀ i, i < p → c3 i = c i) → c3 p = 59 → Wk l E (qmoS E 3 n 0 0 (qZ n sh (fun v I' L' R' => ∃ c ng nd, (2 ≤ ng ∧ ng ≤ 7) ∧ (2 ≤ nd ∧ nd ≤ 6) ∧ DI I' x c ng nd nd ∧ GI I' x c nd ng.toNat ∧ v = pos (kdf I' x) nd ng.toNat ∧ PB E.2.2 n sh x I' L' R' c ∧ ∀ q i, (q < x ∨ x + 170 ≤ q) → I' q i = I q i)) b N xs) mL_put 0 0 391 [(0, .ref x), (1, .ref b), (2, .int (zI 0)), (3, .int (zI 7)), (4, .ref (x + 167)), (5, .ref (x + 168)), (6, .ref (x + 169)), (7, .int (zI v7)), (8, .int (zI (p + 1 + 1))), (9, .int (zI g)), (10, .int (zI v10))] [.int (zI (lett kd)), .int (zI (p + 1)), .int (zI 0), .ref x] (n, sh, I3, L3, R3) := by
      intro I3 L3 R3 c3 b1 b2 b3 b4
      refine wk_cZ3 (q := 394) dL_put_391 rfl vl_L_25 ⟨_, _, rfl⟩ hO.ob (oc_putB b1 ⟨by omega, by omega⟩ ⟨by omega, by omega⟩) (qRo_mS ok_X6_put (by decide) (Nat.le_refl _) (Nat.le_refl _)) (Nat.le_of_ble_eq_true rfl) (fun v391 I391 L391 R391 hv391 => ?_)
      obtain ⟨rfl, hB4, f4⟩ := hv391
      refine wk_iconst (q := 395) dL_put_394 rfl ?_
      refine wk_icmp_ne (t := 423) (q := 398) dL_put_395 rfl rfl (by omega) (by omega) (fun hc395 => ?_) (fun hc395 => ?_)
      · omega
      · refine wk_aload_n (i := 0) (q := 399) dL_put_398 rfl rfl rfl ?_
        refine wk_iconst (q := 400) dL_put_399 rfl ?_
        refine wk_iload (i := 8) (q := 402) dL_put_400 rfl rfl ?_
        refine wk_iinc (lo' := [(0, _), (1, _), (2, _), (3, _), (4, _), (5, _), (6, _), (7, _), (8, _), (9, _), (10, _)]) (q := 405) dL_put_402 rfl rfl (by decide) rfl ?_
        refine wk_bipush (q := 407) dL_put_405 rfl (by decide +kernel) ?_
        refine wk_aload (i := 4) (q := 409) dL_put_407 rfl rfl ?_
        refine wk_bipush (q := 411) dL_put_409 rfl (by decide +kernel) ?_
        refine wk_iload (i := 9) (q := 413) dL_put_411 rfl rfl ?_
        refine wk_iadd (q := 414) dL_put_413 rfl ?_
        refine wk_iald (q := 415) dL_put_414 rfl cT (by omega) ?_
        have e4 : ∀ i, I391 (x + 167) i = I2 (x + 167) i := fun i => (f4 _ i (by omega)).trans (b2 _ i (by omega))
        rw [e4, a2]
        refine wk_iadd (q := 416) dL_put_415 rfl ?_
        refine wk_cZ3 (q := 419) dL_put_416 rfl vl_L_25 ⟨_, _, rfl⟩ hO.ob (oc_putB hB4 ⟨by omega, by omega⟩ ⟨by omega, by omega⟩) (qRo_mS ok_X6_put (by decide) (Nat.le_refl _) (Nat.le_refl _)) (Nat.le_of_ble_eq_true rfl) (fun v416 I416 L416 R416 hv416 => ?_)
        obtain ⟨rfl, hB5, f5⟩ := hv416
        have e5 : ∀ q i, x + 167 ≤ q → I416 q i = I2 q i := fun q i z => (f5 q i (by omega)).trans ((f4 q i (by omega)).trans (b2 q i (by omega)))
        have o5 : ∀ q i, (q < x ∨ x + 170 ≤ q) → I416 q i = I q i := fun q i z => (f5 q i (by omega)).trans ((f4 q i (by omega)).trans ((b2 q i (by omega)).trans ((fO q i (by omega)).trans (FR q i z))))
        have q2 : I416 (x + 167) (16 + (g : Int)) = kd := (e5 _ _ (by omega)).trans a1
        have q3 : I416 (x + 167) (30 + (g : Int)) = ct := (e5 _ _ (by omega)).trans a3
        refine wk_iconst (q := 420) dL_put_419 rfl ?_
        refine wk_icmp_eq (t := 426) (q := 423) dL_put_420 rfl rfl (by omega) (by omega) (fun hc420 => ?_) (fun hc420 => ?_)
        · refine wk_aload (i := 4) (q := 428) dL_put_426 rfl rfl ?_
          refine wk_bipush (q := 430) dL_put_428 rfl (by decide +kernel) ?_
          refine wk_iload (i := 9) (q := 432) dL_put_430 rfl rfl ?_
          refine wk_iadd (q := 433) dL_put_432 rfl ?_
          refine wk_iald (q := 434) dL_put_433 rfl cT (by omega) ?_
          refine wk_iconst (q := 435) dL_put_434 rfl ?_
          refine wk_icmp_ne (t := 466) (q := 438) dL_put_435 rfl rfl (by omega) (by omega) (fun hc435 => ?_) (fun hc435 => ?_)
          · first
              | (have w := j466 v10 I456 L456 R456 _ hB6 o6 (D2 _ _ (fun i => e6 _ i (by omega)) (fun i hi => by rw [u1_ne (by omega), u1_ne (by omega), u1_ne (by omega)]; exact b3 i hi)) (G2 _ _ e6 (fun i hi => by rw [u1_ne (by omega), u1_ne (by omega), u1_ne (by omega)]; exact b3 i hi)) (pos2 _ (fun i => e6 _ i (by omega))) (by
                  unfold GTd
                  rw [e6 _ _ (by omega), e6 _ _ (by omega), e6 _ _ (by omega), e6 _ _ (by omega), e6 _ _ (by omega), a1, a2, a3, a4, a5]
                  refine ⟨by omega, by omega, by omega, hk2, rfl, rfl, ?_, ?_, ?_, fun _ => ?_, fun d d0 d1 => absurd d1 (by omega)⟩
                  · rw [u1_ne (by omega), u1_ne (by omega), u1_ne (by omega)]
                    exact b4
                  · rw [u1_ne (by omega), u1_ne (by omega), u1_eq]
                  · rw [u1_ne (by omega), show p + 1 + 1 = p + 2 by omega, u1_eq]
                  · rw [show p + 1 + 1 + 1 = p + 3 by omega, u1_eq])
                 rw [e6 _ _ (by omega), a1] at w
                 rw [show p + 1 + 1 + 1 + 1 = p + 3 + x2 kd by omega]
                 exact w)
              | (have w := j466 v10 I416 L416 R416 _ hB5 o5 (D2 _ _ (fun i => e5 _ i (by omega)) (fun i hi => by rw [u1_ne (by omega), u1_ne (by omega)]; exact b3 i hi)) (G2 _ _ e5 (fun i hi => by rw [u1_ne (by omega), u1_ne (by omega)]; exact b3 i hi)) (pos2 _ (fun i => e5 _ i (by omega))) (by
                  unfold GTd
                  rw [e5 _ _ (by omega), e5 _ _ (by omega), e5 _ _ (by omega), e5 _ _ (by omega), e5 _ _ (by omega), a1, a2, a3, a4, a5]
                  refine ⟨by omega, by omega, by omega, hk2, rfl, rfl, ?_, ?_, ?_, fun z => absurd z (by omega), fun d d0 d1 => absurd d1 (by omega)⟩
                  · rw [u1_ne (by omega), u1_ne (by omega)]
                    exact b4
                  · rw [u1_ne (by omega), u1_eq]
                  · rw [show p + 1 + 1 = p + 2 by omega, u1_eq])
                 rw [e5 _ _ (by omega), a1] at w
                 rw [show p + 1 + 1 + 1 = p + 3 + x2 kd by omega]
                 exact w)
          · refine wk_aload_n (i := 0) (q := 439) dL_put_438 rfl rfl rfl ?_
            refine wk_iconst (q := 440) dL_put_439 rfl ?_
            refine wk_iload (i := 8) (q := 442) dL_put_440 rfl rfl ?_
            refine wk_iinc (lo' := [(0, _), (1, _), (2, _), (3, _), (4, _), (5, _), (6, _), (7, _), (8, _), (9, _), (10, _)]) (q := 445) dL_put_442 rfl rfl (by decide) rfl ?_
            refine wk_bipush (q := 447) dL_put_445 rfl (by decide +kernel) ?_
            refine wk_aload (i := 4) (q := 449) dL_put_447 rfl rfl ?_
            refine wk_bipush (q := 451) dL_put_449 rfl (by decide +kernel) ?_
            refine wk_iload (i := 9) (q := 453) dL_put_451 rfl rfl ?_
            refine wk_iadd (q := 454) dL_put_453 rfl ?_
            refine wk_iald (q := 455) dL_put_454 rfl cT (by omega) ?_
            rw [q3]
            refine wk_iadd (q := 456) dL_put_455 rfl ?_
            refine wk_cZ3 (q := 459) dL_put_456 rfl vl_L_25 ⟨_, _, rfl⟩ hO.ob (oc_putB hB5 ⟨by omega, by omega⟩ ⟨by omega, by omega⟩) (qRo_mS ok_X6_put (by decide) (Nat.le_refl _) (Nat.le_refl _)) (Nat.le_of_ble_eq_true rfl) (fun v456 I456 L456 R456 hv456 => ?_)
            obtain ⟨rfl, hB6, f6⟩ := hv456
            have e6 : ∀ q i, x + 167 ≤ q → I456 q i = I2 q i := fun q i z => (f6 q i (by omega)).trans (e5 q i z)
            have o6 : ∀ q i, (q < x ∨ x + 170 ≤ q) → I456 q i = I q i := fun q i z => (f6 q i (by omega)).trans (o5 q i z)
            refine wk_iconst (q := 460) dL_put_459 rfl ?_
            refine wk_icmp_eq (t := 466) (q := 463) dL_put_460 rfl rfl (by omega) (by omega) (fun hc460 => ?_) (fun hc460 => ?_)
            · first
                | (have w := j466 v10 I456 L456 R456 _ hB6 o6 (D2 _ _ (fun i => e6 _ i (by omega)) (fun i hi => by rw [u1_ne (by omega), u1_ne (by omega), u1_ne (by omega)]; exact b3 i hi)) (G2 _ _ e6 (fun i hi => by rw [u1_ne (by omega), u1_ne (by omega), u1_ne (by omega)]; exact b3 i hi)) (pos2 _ (fun i => e6 _ i (by omega))) (by
                    unfold GTd
                    rw [e6 _ _ (by omega), e6 _ _ (by omega), e6 _ _ (by omega), e6 _ _ (by omega), e6 _ _ (by omega), a1, a2, a3, a4, a5]
                    refine ⟨by omega, by omega, by omega, hk2, rfl, rfl, ?_, ?_, ?_, fun _ => ?_, fun d d0 d1 => absurd d1 (by omega)⟩
                    · rw [u1_ne (by omega), u1_ne (by omega), u1_ne (by omega)]
                      exact b4
                    · rw [u1_ne (by omega), u1_ne (by omega), u1_eq]
                    · rw [u1_ne (by omega), show p + 1 + 1 = p + 2 by omega, u1_eq]
                    · rw [show p + 1 + 1 + 1 = p + 3 by omega, u1_eq])
                   rw [e6 _ _ (by omega), a1] at w
                   rw [show p + 1 + 1 + 1 + 1 = p + 3 + x2 kd by omega]
                   exact w)
                | (have w := j466 v10 I416 L416 R416 _ hB5 o5 (D2 _ _ (fun i => e5 _ i (by omega)) (fun i hi => by rw [u1_ne (by omega), u1_ne (by omega)]; exact b3 i hi)) (G2 _ _ e5 (fun i hi => by rw [u1_ne (by omega), u1_ne (by omega)]; exact b3 i hi)) (pos2 _ (fun i => e5 _ i (by omega))) (by
                    unfold GTd
                    rw [e5 _ _ (by omega), e5 _ _ (by omega), e5 _ _ (by omega), e5 _ _ (by omega), e5 _ _ (by omega), a1, a2, a3, a4, a5]
                    refine ⟨by omega, by omega, by omega, hk2, rfl, rfl, ?_, ?_, ?_, fun z => absurd z (by omega), fun d d0 d1 => absurd d1 (by omega)⟩
                    · rw [u1_ne (by omega), u1_ne (by omega)]
                      exact b4
                    · rw [u1_ne (by omega), u1_eq]
                    · rw [show p + 1 + 1 = p + 2 by omega, u1_eq])
                   rw [e5 _ _ (by omega), a1] at w
                   rw [show p + 1 + 1 + 1 = p + 3 + x2 kd by omega]
                   exact w)
            · omega
        · omega
    refine wk_aload_n (i := 0) (q := 334) dL_put_333 rfl rfl rfl ?_
    refine wk_iconst (q := 335) dL_put_334 rfl ?_
    refine wk_iload (i := 8) (q := 337) dL_put_335 rfl rfl ?_
    refine wk_iinc (lo' := [(0, _), (1, _), (2, _), (3, _), (4, _), (5, _), (6, _), (7, _), (8, _), (9, _), (10, _)]) (q := 340) dL_put_337 rfl rfl (by decide) rfl ?_
    refine wk_bipush (q := 342) dL_put_340 rfl (by decide +kernel) ?_
    refine wk_cZ3 (q := 345) dL_put_342 rfl vl_L_25 ⟨_, _, rfl⟩ hO.ob (oc_putB PB2 ⟨by omega, by omega⟩ ⟨by omega, by omega⟩) (qRo_mS ok_X6_put (by decide) (Nat.le_refl _) (Nat.le_refl _)) (Nat.le_of_ble_eq_true rfl) (fun v342 I342 L342 R342 hv342 => ?_)
    obtain ⟨rfl, hB3, f3⟩ := hv342
    have q1 : I342 (x + 167) (16 + (g : Int)) = kd := (f3 _ _ (by omega)).trans a1
    have w := j391 I342 L342 R342 _ hB3 (fun q i z => f3 q i z) (fun i hi => u1_ne (by omega)) (u1_eq _ _ _)
    refine wk_iconst (q := 346) dL_put_345 rfl ?_
    refine wk_icmp_ne (t := 423) (q := 349) dL_put_346 rfl rfl (by omega) (by omega) (fun hc346 => ?_) (fun hc346 => ?_)
    · omega
    · refine wk_aload_n (i := 0) (q := 350) dL_put_349 rfl rfl rfl ?_
      refine wk_iconst (q := 351) dL_put_350 rfl ?_
      refine wk_iload (i := 8) (q := 353) dL_put_351 rfl rfl ?_
      refine wk_iinc (lo' := [(0, _), (1, _), (2, _), (3, _), (4, _), (5, _), (6, _), (7, _), (8, _), (9, _), (10, _)]) (q := 356) dL_put_353 rfl rfl (by decide) rfl ?_
      refine wk_aload (i := 4) (q := 358) dL_put_356 rfl rfl ?_
      refine wk_bipush (q := 360) dL_put_358 rfl (by decide +kernel) ?_
      refine wk_iload (i := 9) (q := 362) dL_put_360 rfl rfl ?_
      refine wk_iadd (q := 363) dL_put_362 rfl ?_
      refine wk_iald (q := 364) dL_put_363 rfl cT (by omega) ?_
      refine wk_if_ne (t := 372) (q := 367) dL_put_364 rfl rfl (by omega) (fun hc364 => ?_) (fun hc364 => ?_)
      · refine wk_aload (i := 4) (q := 374) dL_put_372 rfl rfl ?_
        refine wk_bipush (q := 376) dL_put_374 rfl (by decide +kernel) ?_
        refine wk_iload (i := 9) (q := 378) dL_put_376 rfl rfl ?_
        refine wk_iadd (q := 379) dL_put_378 rfl ?_
        refine wk_iald (q := 380) dL_put_379 rfl cT (by omega) ?_
        refine wk_iconst (q := 381) dL_put_380 rfl ?_
        refine wk_icmp_ne (t := 389) (q := 384) dL_put_381 rfl rfl (by omega) (by omega) (fun hc381 => ?_) (fun hc381 => ?_)
        · refine wk_bipush (q := 391) dL_put_389 rfl (by decide +kernel) ?_
          first
          | (rw [show lett kd = 107 by omega] at w; exact w)
          | (rw [show lett kd = 99 by omega] at w; exact w)
          | (rw [show lett kd = 112 by omega] at w; exact w)
        · refine wk_bipush (q := 386) dL_put_384 rfl (by decide +kernel) ?_
          refine wk_goto (t := 391) dL_put_386 rfl ?_
          first
          | (rw [show lett kd = 107 by omega] at w; exact w)
          | (rw [show lett kd = 99 by omega] at w; exact w)
          | (rw [show lett kd = 112 by omega] at w; exact w)
      · refine wk_bipush (q := 369) dL_put_367 rfl (by decide +kernel) ?_
        refine wk_goto (t := 391) dL_put_369 rfl ?_
        first
        | (rw [show lett kd = 107 by omega] at w; exact w)
        | (rw [show lett kd = 99 by omega] at w; exact w)
        | (rw [show lett kd = 112 by omega] at w; exact w)
  have j312 : ∀ (v10 kd kn ct : Int), (0 ≤ kd ∧ kd < 3) → (0 ≤ kn ∧ kn < 10) → (0 ≤ ct ∧ ct < 10) → (kd ≠ 2 → ct = 0) → Wk l E (qmoS E 3 n 0 0 (qZ n sh (fun v I' L' R' => ∃ c ng nd, (2 ≤ ng ∧ ng ≤ 7) ∧ (2 ≤ nd ∧ nd ≤ 6) ∧ DI I' x c ng nd nd ∧ GI I' x c nd ng.toNat ∧ v = pos (kdf I' x) nd ng.toNat ∧ PB E.2.2 n sh x I' L' R' c ∧ ∀ q i, (q < x ∨ x + 170 ≤ q) → I' q i = I q i)) b N xs) mL_put 0 0 312 [(0, .ref x), (1, .ref b), (2, .int (zI 0)), (3, .int (zI 7)), (4, .ref (x + 167)), (5, .ref (x + 168)), (6, .ref (x + 169)), (7, .int (zI v7)), (8, .int (zI p)), (9, .int (zI g)), (10, .int (zI v10))] [.int (zI ct), .int (zI (30 + g)), .ref (x + 167)] (n, sh, up (up I1 (x + 167) (16 + g) kd) (x + 167) (23 + g) kn, L1, R1) := by
    intro v10 kd kn ct hkd hkn hct hk2
    have w := j333 v10 kd kn ct _ hkd hkn hct hk2 rfl
    refine wk_iast (q := 313) dL_put_312 rfl cT (by omega) ?_
    refine wk_aload (i := 4) (q := 315) dL_put_313 rfl rfl ?_
    refine wk_bipush (q := 317) dL_put_315 rfl (by decide +kernel) ?_
    refine wk_iload (i := 9) (q := 319) dL_put_317 rfl rfl ?_
    refine wk_iadd (q := 320) dL_put_319 rfl ?_
    refine wk_iload (i := 9) (q := 322) dL_put_320 rfl rfl ?_
    refine wk_iast (q := 323) dL_put_322 rfl cT (by omega) ?_
    refine wk_aload (i := 4) (q := 325) dL_put_323 rfl rfl ?_
    refine wk_bipush (q := 327) dL_put_325 rfl (by decide +kernel) ?_
    refine wk_iload (i := 9) (q := 329) dL_put_327 rfl rfl ?_
    refine wk_iadd (q := 330) dL_put_329 rfl ?_
    refine wk_bipush (q := 332) dL_put_330 rfl (by decide +kernel) ?_
    refine wk_iast (q := 333) dL_put_332 rfl cT (by omega) ?_
    exact w
  rw [← hp]
  refine wk_iload (i := 9) (q := 230) dL_put_228 rfl rfl ?_
  refine wk_aload (i := 4) (q := 232) dL_put_230 rfl rfl ?_
  refine wk_iconst (q := 233) dL_put_232 rfl ?_
  refine wk_iald (q := 234) dL_put_233 rfl cT (by omega) ?_
  refine wk_icmp_ge (t := 620) (q := 237) dL_put_234 rfl rfl (by omega) (by have := hD.1; omega) (fun hc234 => ?_) (fun hc234 => ?_)
  · have := hD.1
    omega
  · refine wk_aload_n (i := 1) (q := 238) dL_put_237 rfl rfl rfl ?_
    refine wk_iload_n (i := 2) (q := 239) dL_put_238 rfl rfl rfl ?_
    refine wk_iconst (q := 240) dL_put_239 rfl ?_
    refine wk_iadd (q := 241) dL_put_240 rfl ?_
    refine wk_iload (i := 9) (q := 243) dL_put_241 rfl rfl ?_
    refine wk_iadd (q := 244) dL_put_243 rfl ?_
    refine wk_sQ2 (q := 247) dL_put_244 rfl sl_L_9 (fun _ h => h) (ct_cell hL ⟨by omega, by omega⟩) (qRo_mS ok_L_cell (by decide) (Nat.le_refl _) (Nat.le_refl _)) (Nat.le_of_ble_eq_true rfl) (fun v244 hv244 => ?_)
    refine wk_istore (i := 10) (lo' := [(0, _), (1, _), (2, _), (3, _), (4, _), (5, _), (6, _), (7, _), (8, _), (9, _), (10, _)]) (q := 249) dL_put_247 rfl (by decide) rfl ?_
    refine wk_aload (i := 4) (q := 251) dL_put_249 rfl rfl ?_
    refine wk_bipush (q := 253) dL_put_251 rfl (by decide +kernel) ?_
    refine wk_iload (i := 9) (q := 255) dL_put_253 rfl rfl ?_
    refine wk_iadd (q := 256) dL_put_255 rfl ?_
    refine wk_iload (i := 10) (q := 258) dL_put_256 rfl rfl ?_
    refine wk_iconst (q := 259) dL_put_258 rfl ?_
    refine wk_sP2 (q := 262) dL_put_259 rfl sl_L_15 (ct_some (by omega)) (qRo_mS ok_L_some (by decide) (Nat.le_refl _) (Nat.le_refl _)) (Nat.le_of_ble_eq_true rfl) (fun v259 hv259 => ?_)
    refine wk_iast (q := 263) dL_put_262 rfl cT (by omega) ?_
    refine wk_aload (i := 4) (q := 265) dL_put_263 rfl rfl ?_
    refine wk_bipush (q := 267) dL_put_265 rfl (by decide +kernel) ?_
    refine wk_iload (i := 9) (q := 269) dL_put_267 rfl rfl ?_
    refine wk_iadd (q := 270) dL_put_269 rfl ?_
    refine wk_iload (i := 10) (q := 272) dL_put_270 rfl rfl ?_
    refine wk_iconst (q := 273) dL_put_272 rfl ?_
    refine wk_ishr (q := 274) dL_put_273 rfl ?_
    refine wk_bipush (q := 276) dL_put_274 rfl (by decide +kernel) ?_
    refine wk_sP2 (q := 279) dL_put_276 rfl sl_L_15 (ct_some (by omega)) (qRo_mS ok_L_some (by decide) (Nat.le_refl _) (Nat.le_refl _)) (Nat.le_of_ble_eq_true rfl) (fun v276 hv276 => ?_)
    refine wk_iast (q := 280) dL_put_279 rfl cT (by omega) ?_
    refine wk_aload (i := 4) (q := 282) dL_put_280 rfl rfl ?_
    refine wk_bipush (q := 284) dL_put_282 rfl (by decide +kernel) ?_
    refine wk_iload (i := 9) (q := 286) dL_put_284 rfl rfl ?_
    refine wk_iadd (q := 287) dL_put_286 rfl ?_
    refine wk_aload (i := 4) (q := 289) dL_put_287 rfl rfl ?_
    refine wk_bipush (q := 291) dL_put_289 rfl (by decide +kernel) ?_
    refine wk_iload (i := 9) (q := 293) dL_put_291 rfl rfl ?_
    refine wk_iadd (q := 294) dL_put_293 rfl ?_
    refine wk_iald (q := 295) dL_put_294 rfl cT (by omega) ?_
    rw [show up (up I1 (x + 167) (16 + (g : Int)) v259) (x + 167) (23 + (g : Int)) v276 (x + 167) (16 + (g : Int)) = v259 by rw [up_ni _ _ (by omega), up_eq]]
    refine wk_iconst (q := 296) dL_put_295 rfl ?_
    refine wk_icmp_ne (t := 311) (q := 299) dL_put_296 rfl rfl (by omega) (by omega) (fun hc296 => ?_) (fun hc296 => ?_)
    · refine wk_iconst (q := 312) dL_put_311 rfl ?_
      first
      | exact j312 _ _ _ _ hv259 hv276 (by assumption) (fun z => absurd z (by omega))
      | exact j312 _ _ _ 0 hv259 hv276 ⟨by omega, by omega⟩ (fun _ => rfl)
    · refine wk_iload (i := 10) (q := 301) dL_put_299 rfl rfl ?_
      refine wk_iconst (q := 302) dL_put_301 rfl ?_
      refine wk_ishr (q := 303) dL_put_302 rfl ?_
      refine wk_bipush (q := 305) dL_put_303 rfl (by decide +kernel) ?_
      refine wk_sP2 (q := 308) dL_put_305 rfl sl_L_15 (ct_some (by omega)) (qRo_mS ok_L_some (by decide) (Nat.le_refl _) (Nat.le_refl _)) (Nat.le_of_ble_eq_true rfl) (fun v305 hv305 => ?_)
      refine wk_goto (t := 312) dL_put_308 rfl ?_
      first
      | exact j312 _ _ _ _ hv259 hv276 (by assumption) (fun z => absurd z (by omega))
      | exact j312 _ _ _ 0 hv259 hv276 ⟨by omega, by omega⟩ (fun _ => rfl)
end PUT3
