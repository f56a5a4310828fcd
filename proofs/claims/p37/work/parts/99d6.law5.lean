/-! THE LAW: the spoilt row, put and judged -/
theorem NW.sh1 {E : qEv} {n : Nat} {sh : qSh} {x : Nat} {I L : qI} {R : qR} {V : VV} {v : Nat × Nat} (h : NW E n sh x I L R V) : NW E (n + 1) (shu sh (E.2.2 + n) v) x I L R V :=
  ⟨h.1.sh1, h.2.1, h.2.2.1, fun q i z => h.2.2.2.1 q i (by omega), h.2.2.2.2⟩
section LAW5
variable {l : Launch} {E : qEv} {Q : List Frame → Array Value → State → State → Prop} {b N : Nat} {xs : Nat → Int32} {n : Nat} {sh : qSh} {x k j : Nat} {cd tn : Int}
theorem sp_all {V V2 V2' : VV} {v11 spot other : Int} (hk : k + 1 ≤ 600000) (hj : j + 6 ≤ 7302250) (hL0 : LC E.2.2 n sh x) (hp : 0 < V.T.ng) (hVe : V2 = V2') (sV : sameV V V2 ∧ V2.th 1 = 1 ∧ V2.so 1 = 2 ∧ V2.sl 1 = 58) (hce : ∀ i, 0 ≤ i → i < V.C.co * V.T.ng → V2.ce 1 (1 + i) = if toldR V spot other i < 0 then -9 else toldR V spot other i)
    {I L : qI} {R : qR} (hW : NW E (n + 1) (shu sh (E.2.2 + n) (0, 6)) x I L R V2) (hs : 0 ≤ spot ∧ spot < V.C.co * V.T.ng) (ho : -1 ≤ other ∧ other < V.T.nd)
    (K : ∀ I' L' R' V', NW E (n + 1) (shu sh (E.2.2 + n) (0, 6)) x I' L' R' V' → sameV V V' → V'.th 1 = 1 → V'.so 1 = 2 → V'.sl 1 = 58 → Wk l E (lwY E Q b N xs) mL (k + 1) (j + 6) 748 [(0, .ref b), (1, .ref x), (2, .ref (x + 167)), (3, .ref (x + 168)), (4, .ref (x + 169)), (5, .int (zI cd)), (6, .int (zI V.T.ng)), (7, .ref (x + 170)), (8, .ref (x + 171)), (9, .ref (x + 172)), (10, .int (zI tn)), (11, .int (zI v11))] [] (n + 1, shu sh (E.2.2 + n) (0, 6), I', L', R')) :
    Wk l E (lwY E Q b N xs) mL (k + 1) (j + 6) 508 [(0, .ref b), (1, .ref x), (2, .ref (x + 167)), (3, .ref (x + 168)), (4, .ref (x + 169)), (5, .int (zI cd)), (6, .int (zI V.T.ng)), (7, .ref (x + 170)), (8, .ref (x + 171)), (9, .ref (x + 172)), (10, .int (zI tn)), (11, .int (zI v11)), (13, .int (zI (V.C.co * V.T.ng))), (14, .int (zI spot)), (15, .int (zI other))] [.ref (E.2.2 + n)] (n + 1, shu sh (E.2.2 + n) (0, 6), I, L, R) := by
  have hL := hL0.sh1 (v := (0, 6))
  obtain ⟨hV, th1, so1, sl1⟩ := sV
  have hC := hW.1
  have hok := hC.okk
  obtain ⟨cT, cW, cU, cP, cG, cO⟩ := id hL
  obtain ⟨v1, v2, v3, v4⟩ := id hV
  obtain ⟨hT2, hN2, hLA2⟩ := hok.tab (by rw [v1]; exact hp)
  have hT : V.T.ok := by rw [← v1]; exact hT2
  have hNo : V.C.now V.T := by rw [← v1, ← v2]; exact hN2
  have hO := hC.isX
  have hn2 := hT.1
  have hn7 := hT.2.1
  have hd6 := hT.2.2.2.1
  have hd2 := hT.2.2.1
  have hco : V.C.co ≤ 8 := hNo.1.2.2.2.2.2.1
  have hco1 : 1 ≤ V.C.co := hNo.1.2.2.2.2.1
  have hst : 1 ≤ V.C.st ∧ V.C.st < V.T.ng := ⟨hNo.1.2.2.1, hNo.1.2.2.2.1⟩
  have zz := row_z ⟨hco1, hco⟩ ⟨hn2, hn7⟩
  have hA := hW.2.2.1
  rw [v1, v2, hV.ev] at hA
  have hx2 := hL0.2.2.2.2.2.2.1
  have hal : x + 173 ≤ E.2.2 + n := by omega
  have cL : isC E.2.2 (n + 1) (shu sh (E.2.2 + n) (0, 6)) (E.2.2 + n) 0 6 := isC.nw (by decide)
  have hg : ∀ m : Int, 0 ≤ m → m < V.C.co * V.T.ng → jc V2 1 1 m = -9 ∨ (0 ≤ jc V2 1 1 m ∧ jc V2 1 1 m < V2.T.nd) := by
    intro m m0 m1
    have q := hce m m0 m1
    obtain ⟨⟨d0, d1⟩, r0, r1⟩ := row_ix (m := m) (c := V.C.co) (by omega : 0 < V.T.ng) rfl m0 m1
    have ht := tgt_in hNo.1 (m % V.T.ng)
    have hgo := go_in hT hNo d0 d1 ht.1 ht.2
    have q2 : toldR V spot other m < V.T.nd := by
      unfold toldR
      split <;> omega
    rw [v1]
    show V2.ce 1 (1 + m) = -9 ∨ (0 ≤ V2.ce 1 (1 + m) ∧ V2.ce 1 (1 + m) < V.T.nd)
    rw [q]
    split <;> omega
  have hb : badN V2 1 1 (V.C.co * V.T.ng).toNat = 0 := badN_zero _ (fun m hm => hg m (by omega) (by omega))
  have hrj : r_judge V2 1 2 1 (V.C.co * V.T.ng) = judN V2 1 1 (V.C.co * V.T.ng).toNat := by
    have hr := refR_z (V := V2) (k := 1) (so := 2) (i := 1) (z := V.C.co * V.T.ng) (by omega) (by omega) th1 so1 (by omega) (by omega)
    unfold r_judge
    rw [if_neg (fun q => q hr), if_neg (by rw [v1]; omega), if_neg (by rw [v1, v2]; omega), if_neg (by omega)]
  have loop := sp_loop (l := l) (E := E) (Q := Q) (b := b) (N := N) (xs := xs) (n := n + 1) (sh := shu sh (E.2.2 + n) (0, 6)) (x := x) (k := k + 1) (j := j + 6) (cd := cd) (tn := tn) (v11 := v11) (spot := spot) (other := other) hk hj hL hal cL hp hV hok hC hW ⟨hs.1, by omega⟩ ho hce (fun I3 v18 FR => by
    have hW3 := hW.stL hal (by omega) FR
    have w : ∀ I4 L4 R4 fa, NW E (n + 1) (shu sh (E.2.2 + n) (0, 6)) x I4 L4 R4 (V2.setFa fa) → _ := fun I4 L4 R4 fa h => K I4 L4 R4 (V2.setFa fa) h ⟨v1, v2, v3, v4⟩ th1 so1 sl1
    refine wk_aload_n (i := 1) (q := 733) dL_law_732 rfl rfl rfl ?_
    refine wk_iconst (q := 734) dL_law_733 rfl ?_
    refine wk_iconst (q := 735) dL_law_734 rfl ?_
    refine wk_iconst (q := 736) dL_law_735 rfl ?_
    refine wk_iload (i := 13) (q := 738) dL_law_736 rfl rfl ?_
    refine wk_cZ4 (q := 741) dL_law_738 rfl vl_L_82 ⟨_, _, rfl⟩ hO.ob (oc_judge hW3.1 (by decide) (by decide) (by decide) (by omega)) ⟨Nat.le_of_ble_eq_true rfl, Nat.le_of_ble_eq_true rfl, hk, hj⟩ (Nat.le_of_ble_eq_true rfl) (fun v738 I738 L738 R738 hv738 => ?_)
    obtain ⟨ea, hC4, gI, gR⟩ := hv738
    have hW4 := hW3.st hL hC4 ⟨rfl, rfl, rfl, rfl⟩ gI
    have w2 := w _ _ _ _ hW4
    refine wk_iload (i := 17) (q := 743) dL_law_741 rfl rfl ?_
    refine wk_del (i := 18) (lo' := [(0, _), (1, _), (2, _), (3, _), (4, _), (5, _), (6, _), (7, _), (8, _), (9, _), (10, _), (11, _), (13, _), (14, _), (15, _), (16, _), (17, _)]) rfl ?_
    refine wk_del (i := 17) (lo' := [(0, _), (1, _), (2, _), (3, _), (4, _), (5, _), (6, _), (7, _), (8, _), (9, _), (10, _), (11, _), (13, _), (14, _), (15, _), (16, _)]) rfl ?_
    refine wk_del (i := 16) (lo' := [(0, _), (1, _), (2, _), (3, _), (4, _), (5, _), (6, _), (7, _), (8, _), (9, _), (10, _), (11, _), (13, _), (14, _), (15, _)]) rfl ?_
    refine wk_del (i := 15) (lo' := [(0, _), (1, _), (2, _), (3, _), (4, _), (5, _), (6, _), (7, _), (8, _), (9, _), (10, _), (11, _), (13, _), (14, _)]) rfl ?_
    refine wk_del (i := 14) (lo' := [(0, _), (1, _), (2, _), (3, _), (4, _), (5, _), (6, _), (7, _), (8, _), (9, _), (10, _), (11, _), (13, _)]) rfl ?_
    refine wk_del (i := 13) (lo' := [(0, _), (1, _), (2, _), (3, _), (4, _), (5, _), (6, _), (7, _), (8, _), (9, _), (10, _), (11, _)]) rfl ?_
    rw [ea, hrj]
    refine wk_icmp_eqS (t := 748) dL_law_743 rfl ?_
    exact w2
  )
  have copy : ∀ m : Nat, m ≤ V.T.nd.toNat → ∀ I1 : qI, (∀ q i, q ≠ E.2.2 + n → I1 q i = I q i) → (∀ d : Int, 0 ≤ d → d < m → I1 (E.2.2 + n) d = V.T.mn d) → Wk l E (lwY E Q b N xs) mL (k + 1) (j + 6) 513 [(0, .ref b), (1, .ref x), (2, .ref (x + 167)), (3, .ref (x + 168)), (4, .ref (x + 169)), (5, .int (zI cd)), (6, .int (zI V.T.ng)), (7, .ref (x + 170)), (8, .ref (x + 171)), (9, .ref (x + 172)), (10, .int (zI tn)), (11, .int (zI v11)), (13, .int (zI (V.C.co * V.T.ng))), (14, .int (zI spot)), (15, .int (zI other)), (16, .ref (E.2.2 + n)), (17, .int (zI m))] [] (n + 1, shu sh (E.2.2 + n) (0, 6), I1, L, R) := by
    refine up_ind V.T.nd.toNat ?_ ?_
    · intro I1 FR h2
      have q1 : I1 (x + 167) 1 = V.T.nd := (FR _ _ (by omega)).trans hA.2.1
      have w := loop 0 (Nat.zero_le _) I1 (-9) FR rfl (fun _ d d0 d1 => (h2 d d0 (by omega)).trans (by rw [← v1]; rfl))
      refine wk_iload (i := 17) (q := 515) dL_law_513 rfl rfl ?_
      refine wk_aload_n (i := 2) (q := 516) dL_law_515 rfl rfl rfl ?_
      refine wk_iconst (q := 517) dL_law_516 rfl ?_
      refine wk_iald (q := 518) dL_law_517 rfl cT (by omega) ?_
      refine wk_icmp_ge (t := 538) (q := 521) dL_law_518 rfl rfl (by omega) (by omega) (fun hc518 => ?_) (fun hc518 => ?_)
      · refine wk_bipush (q := 540) dL_law_538 rfl (by decide +kernel) ?_
        refine wk_istore (i := 17) (lo' := [(0, _), (1, _), (2, _), (3, _), (4, _), (5, _), (6, _), (7, _), (8, _), (9, _), (10, _), (11, _), (13, _), (14, _), (15, _), (16, _), (17, _)]) (q := 542) dL_law_540 rfl (by decide) rfl ?_
        refine wk_iconst (q := 543) dL_law_542 rfl ?_
        refine wk_istore (i := 18) (lo' := [(0, _), (1, _), (2, _), (3, _), (4, _), (5, _), (6, _), (7, _), (8, _), (9, _), (10, _), (11, _), (13, _), (14, _), (15, _), (16, _), (17, _), (18, _)]) (q := 545) dL_law_543 rfl (by decide) rfl ?_
        exact w
      · omega
    · intro m hm ih I1 FR h2
      have q1 : I1 (x + 167) 1 = V.T.nd := (FR _ _ (by omega)).trans hA.2.1
      have q4 : I1 (x + 167) (4 + m) = V.T.mn m := (FR _ _ (by omega)).trans (hA.2.2.2.2.1 m (by omega) (by omega)).1
      have ih' := ih (up I1 (E.2.2 + n) m (V.T.mn m)) (fun q i z => (up_na _ _ _ _ z).trans (FR q i z)) (fun d d0 d1 => by
        by_cases q : d = m
        · rw [q, up_eq]
        · rw [up_ni _ _ q]
          exact h2 d d0 (by omega))
      refine wk_iload (i := 17) (q := 515) dL_law_513 rfl rfl ?_
      refine wk_aload_n (i := 2) (q := 516) dL_law_515 rfl rfl rfl ?_
      refine wk_iconst (q := 517) dL_law_516 rfl ?_
      refine wk_iald (q := 518) dL_law_517 rfl cT (by omega) ?_
      refine wk_icmp_ge (t := 538) (q := 521) dL_law_518 rfl rfl (by omega) (by omega) (fun hc518 => ?_) (fun hc518 => ?_)
      · omega
      · refine wk_aload (i := 16) (q := 523) dL_law_521 rfl rfl ?_
        refine wk_iload (i := 17) (q := 525) dL_law_523 rfl rfl ?_
        refine wk_aload_n (i := 2) (q := 526) dL_law_525 rfl rfl rfl ?_
        refine wk_iconst (q := 527) dL_law_526 rfl ?_
        refine wk_iload (i := 17) (q := 529) dL_law_527 rfl rfl ?_
        refine wk_iadd (q := 530) dL_law_529 rfl ?_
        refine wk_iald (q := 531) dL_law_530 rfl cT (by omega) ?_
        rw [q4]
        refine wk_iast (q := 532) dL_law_531 rfl cL (by omega) ?_
        refine wk_iinc (lo' := [(0, _), (1, _), (2, _), (3, _), (4, _), (5, _), (6, _), (7, _), (8, _), (9, _), (10, _), (11, _), (13, _), (14, _), (15, _), (16, _), (17, _)]) (q := 535) dL_law_532 rfl rfl (by decide) rfl ?_
        refine wk_goto (t := 513) dL_law_535 rfl ?_
        exact ih'
  have w := copy 0 (Nat.zero_le _) I (fun _ _ _ => rfl) (fun d d0 d1 => absurd d1 (by omega))
  refine wk_astore (i := 16) (lo' := [(0, _), (1, _), (2, _), (3, _), (4, _), (5, _), (6, _), (7, _), (8, _), (9, _), (10, _), (11, _), (13, _), (14, _), (15, _), (16, _)]) (q := 510) dL_law_508 rfl (by decide) rfl ?_
  refine wk_iconst (q := 511) dL_law_510 rfl ?_
  refine wk_istore (i := 17) (lo' := [(0, _), (1, _), (2, _), (3, _), (4, _), (5, _), (6, _), (7, _), (8, _), (9, _), (10, _), (11, _), (13, _), (14, _), (15, _), (16, _), (17, _)]) (q := 513) dL_law_511 rfl (by decide) rfl ?_
  exact w
theorem lw_t4 {V V1 : VV} {v11 : Int} (hk : k ≤ 600000) (hj : j ≤ 7302250) (hk1 : k + 1 ≤ 600000) (hj1 : j + 6 ≤ 7302250) (hL : LC E.2.2 n sh x) (hp : 0 < V.T.ng) {I L : qI} {R : qR} (hW : NW E n sh x I L R V1) (hR : RS V V1 (V.C.co * V.T.ng))
    (K : ∀ I' L' R' V', NW E (n + 1) (shu sh (E.2.2 + n) (0, 6)) x I' L' R' V' → sameV V V' → V'.th 1 = 1 → V'.so 1 = 2 → V'.sl 1 = 58 → Wk l E (lwY E Q b N xs) mL (k + 1) (j + 6) 748 [(0, .ref b), (1, .ref x), (2, .ref (x + 167)), (3, .ref (x + 168)), (4, .ref (x + 169)), (5, .int (zI cd)), (6, .int (zI V.T.ng)), (7, .ref (x + 170)), (8, .ref (x + 171)), (9, .ref (x + 172)), (10, .int (zI tn)), (11, .int (zI v11))] [] (n + 1, shu sh (E.2.2 + n) (0, 6), I', L', R')) :
    Wk l E (lwY E Q b N xs) mL k j 448 [(0, .ref b), (1, .ref x), (2, .ref (x + 167)), (3, .ref (x + 168)), (4, .ref (x + 169)), (5, .int (zI cd)), (6, .int (zI V.T.ng)), (7, .ref (x + 170)), (8, .ref (x + 171)), (9, .ref (x + 172)), (10, .int (zI tn)), (11, .int (zI v11)), (13, .int (zI (V.C.co * V.T.ng)))] [] (n, sh, I, L, R) := by
  obtain ⟨hV, th1, so1, sl1, hce1⟩ := hR
  have hC := hW.1
  have hok := hC.okk
  obtain ⟨cT, cW, cU, cP, cG, cO⟩ := id hL
  obtain ⟨v1, v2, v3, v4⟩ := id hV
  obtain ⟨hT2, hN2, hLA2⟩ := hok.tab (by rw [v1]; exact hp)
  have hT : V.T.ok := by rw [← v1]; exact hT2
  have hNo : V.C.now V.T := by rw [← v1, ← v2]; exact hN2
  have hO := hC.isX
  have hn2 := hT.1
  have hn7 := hT.2.1
  have hd6 := hT.2.2.2.1
  have hd2 := hT.2.2.1
  have hco : V.C.co ≤ 8 := hNo.1.2.2.2.2.2.1
  have hco1 : 1 ≤ V.C.co := hNo.1.2.2.2.2.1
  have hst : 1 ≤ V.C.st ∧ V.C.st < V.T.ng := ⟨hNo.1.2.2.1, hNo.1.2.2.2.1⟩
  have zz := row_z ⟨hco1, hco⟩ ⟨hn2, hn7⟩
  have hA := hW.2.2.1
  rw [v1, v2, hV.ev] at hA
  have e1 := hA.2.1
  have hx2 := cO.2.1
  have j495 : ∀ spot other ov : Int, (0 ≤ spot ∧ spot < V.C.co * V.T.ng) → (-1 ≤ other ∧ other < V.T.nd) → ((other < 0 ∧ ov = -9) ∨ (0 ≤ other ∧ ov = other)) → Wk l E (lwY E Q b N xs) mL k j 495 [(0, .ref b), (1, .ref x), (2, .ref (x + 167)), (3, .ref (x + 168)), (4, .ref (x + 169)), (5, .int (zI cd)), (6, .int (zI V.T.ng)), (7, .ref (x + 170)), (8, .ref (x + 171)), (9, .ref (x + 172)), (10, .int (zI tn)), (11, .int (zI v11)), (13, .int (zI (V.C.co * V.T.ng))), (14, .int (zI spot)), (15, .int (zI other))] [.int (zI ov), .int (zI (1 + spot)), .int (zI 1), .ref x] (n, sh, I, L, R) := by
    intro spot other ov hs ho hov
    refine wk_cZ3 (q := 498) dL_law_495 rfl vl_L_25 ⟨_, _, rfl⟩ hO.ob (oc_put hC (by decide) (by omega) (by omega)) ⟨Nat.le_of_ble_eq_true rfl, Nat.le_of_ble_eq_true rfl, hk, hj⟩ (Nat.le_of_ble_eq_true rfl) (fun v495 I495 L495 R495 hv495 => ?_)
    obtain ⟨ea, hC2, fI, fR⟩ := hv495
    have er : v495 = 1 := by
      rw [ea]
      unfold r_put
      rw [if_neg (by omega), if_neg (fun z => z th1), if_pos (by omega)]
    have es : s_put V1 1 (1 + spot) ov = (V1.setFa 0).setSh V1.th V1.so V1.sl (u2 V1.ce 1 (1 + spot) ov) := by
      unfold s_put
      rw [if_neg (by omega), if_neg (fun z => z th1), if_pos (by omega)]
      unfold cutS
      rw [so1, if_neg (by decide), if_neg (by decide)]
    rw [es] at hC2
    have hW2 := (hW.st hL hC2 ⟨rfl, rfl, rfl, rfl⟩ fI).sh1 (v := (0, 6))
    obtain ⟨V2, hV2⟩ : ∃ V2, V2 = (V1.setFa 0).setSh V1.th V1.so V1.sl (u2 V1.ce 1 (1 + spot) ov) := ⟨_, rfl⟩
    have hce : ∀ i, 0 ≤ i → i < V.C.co * V.T.ng → V2.ce 1 (1 + i) = if toldR V spot other i < 0 then -9 else toldR V spot other i := fun i i0 i1 => by
      rw [hV2]
      show u2 V1.ce 1 (1 + spot) ov 1 (1 + i) = _
      unfold toldR
      by_cases q : i = spot
      · rw [q, u2_eq, if_pos rfl]
        split <;> omega
      · rw [u2_ne (Or.inr (by omega)), hce1 i i0 i1, if_neg q]
        obtain ⟨⟨d0, d1⟩, r0, r1⟩ := row_ix (m := i) (c := V.C.co) (by omega : 0 < V.T.ng) rfl i0 i1
        have ht := tgt_in hNo.1 (i % V.T.ng)
        have hgo := go_in hT hNo d0 d1 ht.1 ht.2
        split <;> omega
    have sV : sameV V V2 ∧ V2.th 1 = 1 ∧ V2.so 1 = 2 ∧ V2.sl 1 = 58 := by
      rw [hV2]
      exact ⟨⟨v1, v2, v3, v4⟩, th1, so1, sl1⟩
    rw [← hV2] at hW2
    refine wk_iconst (q := 499) dL_law_498 rfl ?_
    refine wk_icmp_eq (t := 504) (q := 502) dL_law_499 rfl rfl (by omega) (by omega) (fun hc499 => ?_) (fun hc499 => ?_)
    · refine wk_bipush (q := 506) dL_law_504 rfl (by decide +kernel) ?_
      have hz0 : ∀ i, I495 (E.2.2 + n) i = 0 := fun i => (fI _ i (by omega)).trans (hW.2.2.2.1 _ i (Nat.le_refl _))
      refine wk_newA (z := 6) (q := 508) dL_law_506 rfl w_ai rfl (by decide) hz0 hk1 hj1 ?_
      exact sp_all hk1 hj1 hL hp hV2 sV hce hW2 hs ho K
    · omega
  refine wk_iload (i := 11) (q := 450) dL_law_448 rfl rfl ?_
  refine wk_bipush (q := 452) dL_law_450 rfl (by decide +kernel) ?_
  refine wk_ishr (q := 453) dL_law_452 rfl ?_
  refine wk_iload (i := 13) (q := 455) dL_law_453 rfl rfl ?_
  refine wk_sP2 (q := 458) dL_law_455 rfl sl_L_15 (ct_some ⟨by omega, by omega⟩) ⟨Nat.le_of_ble_eq_true rfl, Nat.le_of_ble_eq_true rfl, hk, hj⟩ (Nat.le_of_ble_eq_true rfl) (fun v455 hv455 => ?_)
  refine wk_istore (i := 14) (lo' := [(0, _), (1, _), (2, _), (3, _), (4, _), (5, _), (6, _), (7, _), (8, _), (9, _), (10, _), (11, _), (13, _), (14, _)]) (q := 460) dL_law_458 rfl (by decide) rfl ?_
  refine wk_iload (i := 11) (q := 462) dL_law_460 rfl rfl ?_
  refine wk_bipush (q := 464) dL_law_462 rfl (by decide +kernel) ?_
  refine wk_ishr (q := 465) dL_law_464 rfl ?_
  refine wk_aload_n (i := 2) (q := 466) dL_law_465 rfl rfl rfl ?_
  refine wk_iconst (q := 467) dL_law_466 rfl ?_
  refine wk_iald (q := 468) dL_law_467 rfl cT (by omega) ?_
  rw [e1]
  refine wk_iconst (q := 469) dL_law_468 rfl ?_
  refine wk_iadd (q := 470) dL_law_469 rfl ?_
  refine wk_sP2 (q := 473) dL_law_470 rfl sl_L_15 (ct_some ⟨by omega, by omega⟩) ⟨Nat.le_of_ble_eq_true rfl, Nat.le_of_ble_eq_true rfl, hk, hj⟩ (Nat.le_of_ble_eq_true rfl) (fun v470 hv470 => ?_)
  refine wk_iconst (q := 474) dL_law_473 rfl ?_
  refine wk_isub (q := 475) dL_law_474 rfl ?_
  refine wk_istore (i := 15) (lo' := [(0, _), (1, _), (2, _), (3, _), (4, _), (5, _), (6, _), (7, _), (8, _), (9, _), (10, _), (11, _), (13, _), (14, _), (15, _)]) (q := 477) dL_law_475 rfl (by decide) rfl ?_
  refine wk_aload_n (i := 1) (q := 478) dL_law_477 rfl rfl rfl ?_
  refine wk_iconst (q := 479) dL_law_478 rfl ?_
  refine wk_iconst (q := 480) dL_law_479 rfl ?_
  refine wk_iload (i := 14) (q := 482) dL_law_480 rfl rfl ?_
  refine wk_iadd (q := 483) dL_law_482 rfl ?_
  refine wk_iload (i := 15) (q := 485) dL_law_483 rfl rfl ?_
  refine wk_if_ge (t := 493) (q := 488) dL_law_485 rfl rfl (by omega) (fun hc485 => ?_) (fun hc485 => ?_)
  · refine wk_iload (i := 15) (q := 495) dL_law_493 rfl rfl ?_
    first
    | exact j495 _ _ (-9) hv455 ⟨by omega, by omega⟩ (Or.inl ⟨by omega, rfl⟩)
    | exact j495 _ _ _ hv455 ⟨by omega, by omega⟩ (Or.inr ⟨by omega, rfl⟩)
  · refine wk_bipush (q := 490) dL_law_488 rfl (by decide +kernel) ?_
    refine wk_goto (t := 495) dL_law_490 rfl ?_
    first
    | exact j495 _ _ (-9) hv455 ⟨by omega, by omega⟩ (Or.inl ⟨by omega, rfl⟩)
    | exact j495 _ _ _ hv455 ⟨by omega, by omega⟩ (Or.inr ⟨by omega, rfl⟩)
end LAW5
