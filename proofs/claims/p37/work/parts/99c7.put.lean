/-! THE LAW's put -/
theorem CI.frm {b n : Nat} {sh : qSh} {x : Nat} {I L I' : qI} {R : qR} {V : VV} (h : CI b n sh x I L R V) (hI : ∀ c i, x ≤ c → c < x + 167 → I' c i = I c i) : CI b n sh x I' L R V := by
  obtain ⟨o, d, u1, u2, u3, h⟩ := h
  have hT2 := h.2.2.2.2.2.2.2.1.2
  have hng := h.2.2.1.ng
  refine ⟨o, d, u1, u2, u3, h.gen h.1 rfl h.2.2.1 (fun c i q1 q2 => hI c i (by omega) (by omega)) (by rw [hI _ _ (by omega) (by omega)]; exact h.2.2.2.1) (by rw [hI _ _ (by omega) (by omega)]; exact h.2.2.2.2.1) (by rw [hI _ _ (by omega) (by omega)]; exact h.2.2.2.2.2.1) (h.2.2.2.2.2.2.1.cg ⟨rfl, rfl, rfl, rfl⟩ (fun c i q1 q2 => hI c i (by omega) (by omega))) (fun q => ?_) (fun q => ?_) ?_ ?_⟩
  · rcases hT2 with z | z
    · rw [hI _ _ (by omega) (by omega), hI _ _ (by omega) (by omega)]
      exact z.2
    · omega
  · rcases hT2 with z | ⟨z1, z2, z3, z4, z5⟩
    · omega
    · exact ⟨z3.cg hng.2.1 (fun c i q => hI c i (by omega) (by omega)), by rw [hI _ _ (by omega) (by omega)]; exact z4, fun g g0 g1 => by rw [hI _ _ (by omega) (by omega)]; exact z5 g g0 g1⟩
  · have hB := h.2.2.2.2.2.2.2.2.1
    unfold caB at hB ⊢
    rw [hI _ _ (by omega) (by omega)]
    exact hB
  · have hC := h.2.2.2.2.2.2.2.2.2
    unfold caS at hC ⊢
    rw [hI _ _ (by omega) (by omega)]
    rcases hC with z | ⟨z1, z2, z3⟩
    · exact Or.inl z
    · exact Or.inr ⟨z1, z2, fun aim a0 a1 => ⟨by rw [hI _ _ (by omega) (by omega)]; exact (z3 aim a0 a1).1, fun s s0 s1 => by rw [hI _ _ (by omega) (by omega)]; exact (z3 aim a0 a1).2 s s0 s1⟩⟩
def isX (b n : Nat) (sh : qSh) (x : Nat) : Prop := isC b n sh x 10 0
theorem isX.ob {b n : Nat} {sh : qSh} {x : Nat} (h : isX b n sh x) : isC b n sh x 10 0 := h
theorem CI.isX {b n : Nat} {sh : qSh} {x : Nat} {I L : qI} {R : qR} {V : VV} (h : CI b n sh x I L R V) : isX b n sh x := by
  obtain ⟨o, d, u1, u2, u3, h0⟩ := h
  exact h0.1.ob
theorem zB_small {v : Int} (h : 0 ≤ v ∧ v < 128) : zB v = v := by
  unfold zB zI
  rw [Int32.toInt8_ofInt, Int8.toInt_toInt32, Int8.toInt_ofInt_of_le (by omega) (by omega)]
/-- the class, whose sheet 0 holds a text -/
def PB (b n : Nat) (sh : qSh) (x : Nat) (I L : qI) (R : qR) (c : Int → Int) : Prop := ∃ V, CI b n sh x I L R V ∧ V.th 0 = 1 ∧ V.so 0 = 0 ∧ V.sl 0 = 100 ∧ V.ce 0 = c
theorem PB.frm {b n : Nat} {sh : qSh} {x : Nat} {I L I' : qI} {R : qR} {c : Int → Int} (h : PB b n sh x I L R c) (hI : ∀ c i, c < x + 167 → I' c i = I c i) : PB b n sh x I' L R c := by
  obtain ⟨V, hC, h1⟩ := h
  exact ⟨V, hC.frm (fun c i _ q => hI c i q), h1⟩
section PUT1
variable {l : Launch} {E : qEv} {n : Nat} {sh : qSh} {I L : qI} {R : qR}
theorem oc_putB {x : Nat} {c : Int → Int} {i v : Int} (h : PB E.2.2 n sh x I L R c) (hi : 0 ≤ i ∧ i < 100) (hv : 0 ≤ v ∧ v < 128) : Ct l E 1 mX6_put [.ref x, .int (zI 0), .int (zI i), .int (zI v)] (n, sh, I, L, R) 0 0 (qZ n sh (fun r I' L' R' => r = 1 ∧ PB E.2.2 n sh x I' L' R' (u1 c i v) ∧ frO I I' x 167)) := by
  obtain ⟨V, hC, h1, h2, h3, h4⟩ := h
  refine (oc_put hC (by omega) (by omega) (by omega)).mono ?_
  rintro r S' ⟨v', I', L', R', rfl, rfl, e, hC', fI, fR⟩
  have er : r_put V 0 i = 1 := by
    unfold r_put
    rw [if_neg (by omega), if_neg (fun z => z h1), if_pos (by omega)]
  have es : s_put V 0 i v = (V.setFa 0).setSh V.th V.so V.sl (u2 V.ce 0 i (cutS (V.so 0) v)) := by
    unfold s_put
    rw [if_neg (by omega), if_neg (fun z => z h1), if_pos (by omega)]
  rw [es] at hC'
  refine ⟨_, I', L', R', rfl, rfl, e.trans er, ⟨_, hC', h1, h2, h3, ?_⟩, fI⟩
  show u2 V.ce 0 i (cutS (V.so 0) v) 0 = u1 c i v
  have ec : cutS (V.so 0) v = v := by
    unfold cutS
    rw [if_pos h2, zB_small hv]
  rw [ec]
  funext j
  by_cases q : j = i
  · rw [q, u2_eq, u1_eq]
  · rw [u2_ne (Or.inr q), u1_ne q, h4]
theorem oc_sheetB {x : Nat} {V : VV} (h : CI E.2.2 n sh x I L R V) : Ct l E 2 mX6_sheet [.ref x, .int (zI 0), .int (zI 0), .int (zI 100)] (n, sh, I, L, R) 0 0 (qZ n sh (fun r I' L' R' => r = 1 ∧ PB E.2.2 n sh x I' L' R' (fun _ => 0) ∧ frO I I' x 167)) := by
  refine (oc_sheet h (by decide) (by decide) (by decide)).mono ?_
  rintro r S' ⟨v', I', L', R', rfl, rfl, e, hC', fI, fR⟩
  have er : r_sheet 0 0 100 = 1 := by decide
  have es : s_sheet V 0 0 100 = (V.setFa 0).setSh (u1 V.th 0 1) (u1 V.so 0 0) (u1 V.sl 0 100) (fun a i => if a = 0 then 0 else V.ce a i) := by
    unfold s_sheet
    rw [if_neg (by decide), if_neg (by decide), if_neg (by decide)]
  rw [es] at hC'
  refine ⟨_, I', L', R', rfl, rfl, e.trans er, ⟨_, hC', (show u1 V.th 0 1 0 = 1 from u1_eq _ _ _), (show u1 V.so 0 0 0 = 0 from u1_eq _ _ _), (show u1 V.sl 0 100 0 = 100 from u1_eq _ _ _), ?_⟩, fI⟩
  funext j
  show (if (0 : Int) = 0 then (0 : Int) else V.ce 0 j) = 0
  exact if_pos rfl
end PUT1
def ayP (I : qI) (x : Nat) (g D : Int) : Prop := ∃ d : Int, 0 ≤ d ∧ d < D ∧ 0 ≤ I (x + 168) (6 * g + d)
section PUT2
variable {l : Launch} {E : qEv} {n : Nat} {sh : qSh} {I : qI}
/-- a guest's dishes -/
theorem pt_worth {b N : Nat} {xs : Nat → Int32} {x : Nat} {ng nd v7 v10 p : Int} {g : Nat} (hL : N ≤ 260) (hO : isX E.2.2 n sh x) (cT : isC E.2.2 n sh (x + 167) 0 51) (cW : isC E.2.2 n sh (x + 168) 0 42) (cU : isC E.2.2 n sh (x + 169) 0 42) (hng : 2 ≤ ng ∧ ng ≤ 7) (hnd : 2 ≤ nd ∧ nd ≤ 6) (hg : (g : Int) < ng) (hp : 16 - 14 ≤ p ∧ p ≤ 14 + 10 * g)
    (K : ∀ I1 L1 R1 c v11, PB E.2.2 n sh x I1 L1 R1 c → (∀ q i, (q < x ∨ x + 170 ≤ q) → I1 q i = I q i) → DI I1 x c ng nd nd → GI I1 x c nd g → pos (kdf I1 x) nd g = p → GTd I1 x c g p nd → ayP I1 x g nd → Wk l E (qmoS E 3 n 0 0 (qZ n sh (fun v I' L' R' => ∃ c ng nd, (2 ≤ ng ∧ ng ≤ 7) ∧ (2 ≤ nd ∧ nd ≤ 6) ∧ DI I' x c ng nd nd ∧ GI I' x c nd ng.toNat ∧ v = pos (kdf I' x) nd ng.toNat ∧ PB E.2.2 n sh x I' L' R' c ∧ ∀ q i, (q < x ∨ x + 170 ≤ q) → I' q i = I q i)) b N xs) mL_put 0 0 614 [(0, .ref x), (1, .ref b), (2, .int (zI 0)), (3, .int (zI 7)), (4, .ref (x + 167)), (5, .ref (x + 168)), (6, .ref (x + 169)), (7, .int (zI v7)), (8, .int (zI (p + 3 + x2 (I1 (x + 167) (16 + g)) + nd))), (9, .int (zI g)), (10, .int (zI v10)), (11, .int (zI v11))] [] (n, sh, I1, L1, R1)) :
    ∀ d : Nat, d ≤ nd.toNat → ∀ I1 L1 R1 c any, PB E.2.2 n sh x I1 L1 R1 c → (∀ q i, (q < x ∨ x + 170 ≤ q) → I1 q i = I q i) → DI I1 x c ng nd nd → GI I1 x c nd g → pos (kdf I1 x) nd g = p → GTd I1 x c g p d → (any = 1 ∧ ayP I1 x g d) ∨ (any = 0 ∧ (d : Int) < nd) → Wk l E (qmoS E 3 n 0 0 (qZ n sh (fun v I' L' R' => ∃ c ng nd, (2 ≤ ng ∧ ng ≤ 7) ∧ (2 ≤ nd ∧ nd ≤ 6) ∧ DI I' x c ng nd nd ∧ GI I' x c nd ng.toNat ∧ v = pos (kdf I' x) nd ng.toNat ∧ PB E.2.2 n sh x I' L' R' c ∧ ∀ q i, (q < x ∨ x + 170 ≤ q) → I' q i = I q i)) b N xs) mL_put 0 0 472 [(0, .ref x), (1, .ref b), (2, .int (zI 0)), (3, .int (zI 7)), (4, .ref (x + 167)), (5, .ref (x + 168)), (6, .ref (x + 169)), (7, .int (zI v7)), (8, .int (zI (p + 3 + x2 (I1 (x + 167) (16 + g)) + d))), (9, .int (zI g)), (10, .int (zI v10)), (11, .int (zI any)), (12, .int (zI d))] [] (n, sh, I1, L1, R1) := by
  refine up_ind nd.toNat ?_ ?_
  · intro I1 L1 R1 c any PBh FR hD hG hP hT hany
    have e1 : ((nd.toNat : Nat) : Int) = nd := by omega
    rw [e1] at hT hany ⊢
    have q1 := hD.2.1
    have hx := (hany.resolve_right (by omega)).2
    have k0 := K I1 L1 R1 c any PBh FR hD hG hP hT hx
    refine wk_iload (i := 12) (q := 474) dL_put_472 rfl rfl ?_
    refine wk_aload (i := 4) (q := 476) dL_put_474 rfl rfl ?_
    refine wk_iconst (q := 477) dL_put_476 rfl ?_
    refine wk_iald (q := 478) dL_put_477 rfl cT (by omega) ?_
    refine wk_icmp_ge (t := 614) (q := 481) dL_put_478 rfl rfl (by omega) (by omega) (fun hc478 => ?_) (fun hc478 => ?_)
    · refine wk_del (i := 12) (lo' := [(0, _), (1, _), (2, _), (3, _), (4, _), (5, _), (6, _), (7, _), (8, _), (9, _), (10, _), (11, _)]) rfl ?_
      exact k0
    · omega
  · intro d hd ih I1 L1 R1 c any PBh FR hD hG hP hT hany
    have q1 := hD.2.1
    have hk2 := x2_in (I1 (x + 167) (16 + g))
    have hany1 : any = 0 ∨ any = 1 := by omega
    have put : ∀ v any' ch v13 I2 : _, ((v = -1 ∧ ch = 120) ∨ (0 ≤ v ∧ v < 10 ∧ ch = 48 + v)) → ((any' = 1 ∧ (any = 1 ∨ 0 ≤ v)) ∨ (any' = 0 ∧ any = 0 ∧ v = -1)) → (v = -1 → any = 1 ∨ (d : Int) < nd - 1) → I2 = up (up I1 (x + 168) (6 * g + d) v) (x + 169) (6 * g + d) v → Wk l E (qmoS E 3 n 0 0 (qZ n sh (fun v I' L' R' => ∃ c ng nd, (2 ≤ ng ∧ ng ≤ 7) ∧ (2 ≤ nd ∧ nd ≤ 6) ∧ DI I' x c ng nd nd ∧ GI I' x c nd ng.toNat ∧ v = pos (kdf I' x) nd ng.toNat ∧ PB E.2.2 n sh x I' L' R' c ∧ ∀ q i, (q < x ∨ x + 170 ≤ q) → I' q i = I q i)) b N xs) mL_put 0 0 598 [(0, .ref x), (1, .ref b), (2, .int (zI 0)), (3, .int (zI 7)), (4, .ref (x + 167)), (5, .ref (x + 168)), (6, .ref (x + 169)), (7, .int (zI v7)), (8, .int (zI (p + 3 + x2 (I1 (x + 167) (16 + g)) + d + 1))), (9, .int (zI g)), (10, .int (zI v10)), (11, .int (zI any')), (12, .int (zI d)), (13, .int (zI v13)), (14, .int (zI v))] [.int (zI ch), .int (zI (p + 3 + x2 (I1 (x + 167) (16 + g)) + d)), .int (zI 0), .ref x] (n, sh, I2, L1, R1) := by
      intro v any' ch v13 I2 hv hany' hlast hI2
      have f2 : ∀ q i, q ≠ x + 168 → q ≠ x + 169 → I2 q i = I1 q i := fun q i z1 z2 => by rw [hI2, up_na _ _ _ _ z2, up_na _ _ _ _ z1]
      have f2w : ∀ i, i ≠ 6 * (g : Int) + d → I2 (x + 168) i = I1 (x + 168) i ∧ I2 (x + 169) i = I1 (x + 169) i := fun i z => by
        rw [hI2]
        exact ⟨by rw [up_na _ _ _ _ (by omega), up_ni _ _ z], by rw [up_ni _ _ z, up_na _ _ _ _ (by omega)]⟩
      have f2v : I2 (x + 168) (6 * g + d) = v ∧ I2 (x + 169) (6 * g + d) = v := by
        rw [hI2]
        exact ⟨by rw [up_na _ _ _ _ (by omega), up_eq], by rw [up_eq]⟩
      have PB2 := PBh.frm (I' := I2) (fun c i q => f2 c i (by omega) (by omega))
      have hi : 0 ≤ p + 3 + x2 (I1 (x + 167) (16 + g)) + d ∧ p + 3 + x2 (I1 (x + 167) (16 + g)) + d < 100 := by omega
      refine wk_cZ3 (q := 601) dL_put_598 rfl vl_L_25 ⟨_, _, rfl⟩ hO.ob (oc_putB PB2 hi ⟨by omega, by omega⟩) (qRo_mS ok_X6_put (by decide) (Nat.le_refl _) (Nat.le_refl _)) (Nat.le_of_ble_eq_true rfl) (fun v598 I598 L598 R598 hv598 => ?_)
      obtain ⟨rfl, hB, fB⟩ := hv598
      refine wk_iconst (q := 602) dL_put_601 rfl ?_
      refine wk_icmp_eq (t := 608) (q := 605) dL_put_602 rfl rfl (by omega) (by omega) (fun hc602 => ?_) (fun hc602 => ?_)
      · refine wk_iinc (lo' := [(0, _), (1, _), (2, _), (3, _), (4, _), (5, _), (6, _), (7, _), (8, _), (9, _), (10, _), (11, _), (12, _), (13, _), (14, _)]) (q := 611) dL_put_608 rfl rfl (by decide) rfl ?_
        refine wk_goto (t := 472) dL_put_611 rfl ?_
        refine wk_del (i := 14) (lo' := [(0, _), (1, _), (2, _), (3, _), (4, _), (5, _), (6, _), (7, _), (8, _), (9, _), (10, _), (11, _), (12, _), (13, _)]) rfl ?_
        refine wk_del (i := 13) (lo' := [(0, _), (1, _), (2, _), (3, _), (4, _), (5, _), (6, _), (7, _), (8, _), (9, _), (10, _), (11, _), (12, _)]) rfl ?_
        have f3 : ∀ q i, x + 167 ≤ q → I598 q i = I2 q i := fun q i z => fB q i (Or.inr z)
        have t3 : ∀ i, I598 (x + 167) i = I1 (x + 167) i := fun i => (f3 _ i (by omega)).trans (f2 _ i (by omega) (by omega))
        have pp := pos_in (kd := kdf I1 x) hnd g
        have h5 := ih I598 L598 R598 _ any' hB (fun q i z => (fB q i (by omega)).trans ((f2 q i (by omega) (by omega)).trans (FR q i z))) (hD.st (by omega) (fun i _ _ => t3 i) (fun i i0 i1 => u1_ne (by omega))) (hG.st hnd (by omega) (fun k _ _ i _ => t3 i) (fun i i0 i1 => by rw [f3 _ _ (by omega), f3 _ _ (by omega)]; exact f2w i (by omega)) (fun i i0 i1 => u1_ne (by omega))) ((pos_cg g (fun k _ _ => t3 _)).trans hP) ?_ ?_
        · rw [t3] at h5
          rw [show p + 3 + x2 (I1 (x + 167) (16 + (g : Int))) + (d : Int) + 1 = p + 3 + x2 (I1 (x + 167) (16 + (g : Int))) + ((d + 1 : Nat) : Int) by omega]
          exact h5
        · have h6 := hT.st (I2 := I598) (c2 := u1 c (p + 3 + x2 (I1 (x + 167) (16 + (g : Int))) + d) ch) (by omega) (fun i _ => t3 i) (fun d' d0 d1 => by rw [f3 _ _ (by omega), f3 _ _ (by omega)]; exact f2w _ (by omega)) (fun i i0 i1 => u1_ne (by omega))
          obtain ⟨w1, w2, w3, w4, w5, w6, w7, w8, w9, w10, w11⟩ := h6
          refine ⟨w1, w2, w3, w4, w5, w6, w7, w8, w9, w10, fun d' d0 d1 => ?_⟩
          by_cases e : d' = d
          · rw [e, f3 _ _ (by omega), f3 _ _ (by omega), f2v.1, f2v.2, t3, u1_eq]
            refine ⟨by omega, rfl, ?_⟩
            split <;> omega
          · exact w11 d' d0 (by omega)
        · rcases hany' with ⟨z1, z2⟩ | ⟨z1, z2, z3⟩
          · refine Or.inl ⟨z1, ?_⟩
            by_cases e : 0 ≤ v
            · exact ⟨d, by omega, by omega, by rw [f3 _ _ (by omega), f2v.1]; exact e⟩
            · obtain ⟨d', d0, d1, d2⟩ := (hany.resolve_right (by omega)).2
              exact ⟨d', d0, by omega, by rw [f3 _ _ (by omega), (f2w _ (by omega)).1]; exact d2⟩
          · exact Or.inr ⟨z1, by have := hlast z3; omega⟩
      · omega
    have j548 : ∀ v any' v13 : Int, (v = -1 ∨ (0 ≤ v ∧ v < 10)) → ((any' = 1 ∧ (any = 1 ∨ 0 ≤ v)) ∨ (any' = 0 ∧ any = 0 ∧ v = -1)) → (v = -1 → any = 1 ∨ (d : Int) < nd - 1) → Wk l E (qmoS E 3 n 0 0 (qZ n sh (fun v I' L' R' => ∃ c ng nd, (2 ≤ ng ∧ ng ≤ 7) ∧ (2 ≤ nd ∧ nd ≤ 6) ∧ DI I' x c ng nd nd ∧ GI I' x c nd ng.toNat ∧ v = pos (kdf I' x) nd ng.toNat ∧ PB E.2.2 n sh x I' L' R' c ∧ ∀ q i, (q < x ∨ x + 170 ≤ q) → I' q i = I q i)) b N xs) mL_put 0 0 548 [(0, .ref x), (1, .ref b), (2, .int (zI 0)), (3, .int (zI 7)), (4, .ref (x + 167)), (5, .ref (x + 168)), (6, .ref (x + 169)), (7, .int (zI v7)), (8, .int (zI (p + 3 + x2 (I1 (x + 167) (16 + g)) + d))), (9, .int (zI g)), (10, .int (zI v10)), (11, .int (zI any)), (12, .int (zI d)), (13, .int (zI v13)), (14, .int (zI v))] [.int (zI any')] (n, sh, I1, L1, R1) := by
      intro v any' v13 hv hany' hlast
      refine wk_istore (i := 11) (lo' := [(0, _), (1, _), (2, _), (3, _), (4, _), (5, _), (6, _), (7, _), (8, _), (9, _), (10, _), (11, _), (12, _), (13, _), (14, _)]) (q := 550) dL_put_548 rfl (by decide) rfl ?_
      refine wk_aload (i := 5) (q := 552) dL_put_550 rfl rfl ?_
      refine wk_bipush (q := 554) dL_put_552 rfl (by decide +kernel) ?_
      refine wk_iload (i := 9) (q := 556) dL_put_554 rfl rfl ?_
      refine wk_imul (q := 557) dL_put_556 rfl ?_
      refine wk_iload (i := 12) (q := 559) dL_put_557 rfl rfl ?_
      refine wk_iadd (q := 560) dL_put_559 rfl ?_
      refine wk_iload (i := 14) (q := 562) dL_put_560 rfl rfl ?_
      refine wk_iast (q := 563) dL_put_562 rfl cW (by omega) ?_
      refine wk_aload (i := 6) (q := 565) dL_put_563 rfl rfl ?_
      refine wk_bipush (q := 567) dL_put_565 rfl (by decide +kernel) ?_
      refine wk_iload (i := 9) (q := 569) dL_put_567 rfl rfl ?_
      refine wk_imul (q := 570) dL_put_569 rfl ?_
      refine wk_iload (i := 12) (q := 572) dL_put_570 rfl rfl ?_
      refine wk_iadd (q := 573) dL_put_572 rfl ?_
      refine wk_iload (i := 14) (q := 575) dL_put_573 rfl rfl ?_
      refine wk_iast (q := 576) dL_put_575 rfl cU (by omega) ?_
      refine wk_aload_n (i := 0) (q := 577) dL_put_576 rfl rfl rfl ?_
      refine wk_iconst (q := 578) dL_put_577 rfl ?_
      refine wk_iload (i := 8) (q := 580) dL_put_578 rfl rfl ?_
      refine wk_iinc (lo' := [(0, _), (1, _), (2, _), (3, _), (4, _), (5, _), (6, _), (7, _), (8, _), (9, _), (10, _), (11, _), (12, _), (13, _), (14, _)]) (q := 583) dL_put_580 rfl rfl (by decide) rfl ?_
      refine wk_iload (i := 14) (q := 585) dL_put_583 rfl rfl ?_
      refine wk_if_ge (t := 593) (q := 588) dL_put_585 rfl rfl (by omega) (fun hc585 => ?_) (fun hc585 => ?_)
      · refine wk_bipush (q := 595) dL_put_593 rfl (by decide +kernel) ?_
        refine wk_iload (i := 14) (q := 597) dL_put_595 rfl rfl ?_
        refine wk_iadd (q := 598) dL_put_597 rfl ?_
        first
        | exact put v any' 120 v13 _ (Or.inl ⟨by omega, rfl⟩) hany' hlast rfl
        | exact put v any' (48 + v) v13 _ (Or.inr ⟨by omega, by omega, rfl⟩) hany' hlast rfl
      · refine wk_bipush (q := 590) dL_put_588 rfl (by decide +kernel) ?_
        refine wk_goto (t := 598) dL_put_590 rfl ?_
        first
        | exact put v any' 120 v13 _ (Or.inl ⟨by omega, rfl⟩) hany' hlast rfl
        | exact put v any' (48 + v) v13 _ (Or.inr ⟨by omega, by omega, rfl⟩) hany' hlast rfl
    have j531 : ∀ v v13 : Int, (v = -1 ∨ (0 ≤ v ∧ v < 10)) → (v = -1 → any = 1 ∨ (d : Int) < nd - 1) → ∀ lo1, lo1 = [(0, .ref x), (1, .ref b), (2, .int (zI 0)), (3, .int (zI 7)), (4, .ref (x + 167)), (5, .ref (x + 168)), (6, .ref (x + 169)), (7, .int (zI v7)), (8, .int (zI (p + 3 + x2 (I1 (x + 167) (16 + g)) + d))), (9, .int (zI g)), (10, .int (zI v10)), (11, .int (zI any)), (12, .int (zI d)), (13, .int (zI v13))] → Wk l E (qmoS E 3 n 0 0 (qZ n sh (fun v I' L' R' => ∃ c ng nd, (2 ≤ ng ∧ ng ≤ 7) ∧ (2 ≤ nd ∧ nd ≤ 6) ∧ DI I' x c ng nd nd ∧ GI I' x c nd ng.toNat ∧ v = pos (kdf I' x) nd ng.toNat ∧ PB E.2.2 n sh x I' L' R' c ∧ ∀ q i, (q < x ∨ x + 170 ≤ q) → I' q i = I q i)) b N xs) mL_put 0 0 531 lo1 [.int (zI v)] (n, sh, I1, L1, R1) := by
      rintro v v13 hv hlast lo1 rfl
      refine wk_istore (i := 14) (lo' := [(0, _), (1, _), (2, _), (3, _), (4, _), (5, _), (6, _), (7, _), (8, _), (9, _), (10, _), (11, _), (12, _), (13, _), (14, _)]) (q := 533) dL_put_531 rfl (by decide) rfl ?_
      refine wk_iload (i := 11) (q := 535) dL_put_533 rfl rfl ?_
      refine wk_if_ne (t := 543) (q := 538) dL_put_535 rfl rfl (by omega) (fun hc535 => ?_) (fun hc535 => ?_)
      · refine wk_iconst (q := 544) dL_put_543 rfl ?_
        refine wk_goto (t := 548) dL_put_544 rfl ?_
        first
        | exact j548 v 1 v13 hv (Or.inl ⟨rfl, by omega⟩) hlast
        | exact j548 v 0 v13 hv (Or.inr ⟨rfl, by omega, by omega⟩) hlast
      · refine wk_iload (i := 14) (q := 540) dL_put_538 rfl rfl ?_
        refine wk_if_lt (t := 547) (q := 543) dL_put_540 rfl rfl (by omega) (fun hc540 => ?_) (fun hc540 => ?_)
        · refine wk_iconst (q := 548) dL_put_547 rfl ?_
          first
          | exact j548 v 1 v13 hv (Or.inl ⟨rfl, by omega⟩) hlast
          | exact j548 v 0 v13 hv (Or.inr ⟨rfl, by omega, by omega⟩) hlast
        · refine wk_iconst (q := 544) dL_put_543 rfl ?_
          refine wk_goto (t := 548) dL_put_544 rfl ?_
          first
          | exact j548 v 1 v13 hv (Or.inl ⟨rfl, by omega⟩) hlast
          | exact j548 v 0 v13 hv (Or.inr ⟨rfl, by omega, by omega⟩) hlast
    refine wk_iload (i := 12) (q := 474) dL_put_472 rfl rfl ?_
    refine wk_aload (i := 4) (q := 476) dL_put_474 rfl rfl ?_
    refine wk_iconst (q := 477) dL_put_476 rfl ?_
    refine wk_iald (q := 478) dL_put_477 rfl cT (by omega) ?_
    refine wk_icmp_ge (t := 614) (q := 481) dL_put_478 rfl rfl (by omega) (by omega) (fun hc478 => ?_) (fun hc478 => ?_)
    · omega
    · refine wk_iload (i := 10) (q := 483) dL_put_481 rfl rfl ?_
      refine wk_bipush (q := 485) dL_put_483 rfl (by decide +kernel) ?_
      refine wk_iconst (q := 486) dL_put_485 rfl ?_
      refine wk_iload (i := 12) (q := 488) dL_put_486 rfl rfl ?_
      refine wk_imul (q := 489) dL_put_488 rfl ?_
      refine wk_iadd (q := 490) dL_put_489 rfl ?_
      refine wk_ishr (q := 491) dL_put_490 rfl ?_
      refine wk_istore (i := 13) (lo' := [(0, _), (1, _), (2, _), (3, _), (4, _), (5, _), (6, _), (7, _), (8, _), (9, _), (10, _), (11, _), (12, _), (13, _)]) (q := 493) dL_put_491 rfl (by decide) rfl ?_
      refine wk_iload (i := 13) (q := 495) dL_put_493 rfl rfl ?_
      refine wk_iconst (q := 496) dL_put_495 rfl ?_
      refine wk_sP2 (q := 499) dL_put_496 rfl sl_L_15 (ct_some (by omega)) (qRo_mS ok_L_some (by decide) (Nat.le_refl _) (Nat.le_refl _)) (Nat.le_of_ble_eq_true rfl) (fun v496 hv496 => ?_)
      refine wk_if_ne (t := 522) (q := 502) dL_put_499 rfl rfl (by omega) (fun hc499 => ?_) (fun hc499 => ?_)
      · refine wk_iload (i := 13) (q := 524) dL_put_522 rfl rfl ?_
        refine wk_iconst (q := 525) dL_put_524 rfl ?_
        refine wk_ishr (q := 526) dL_put_525 rfl ?_
        refine wk_bipush (q := 528) dL_put_526 rfl (by decide +kernel) ?_
        refine wk_sP2 (q := 531) dL_put_528 rfl sl_L_15 (ct_some (by omega)) (qRo_mS ok_L_some (by decide) (Nat.le_refl _) (Nat.le_refl _)) (Nat.le_of_ble_eq_true rfl) (fun v528 hv528 => ?_)
        first
        | exact j531 (-1) _ (Or.inl rfl) (fun _ => by omega) _ rfl
        | exact j531 _ _ (Or.inr (by assumption)) (fun z => by omega) _ rfl
      · refine wk_iload (i := 11) (q := 504) dL_put_502 rfl rfl ?_
        refine wk_if_ne (t := 518) (q := 507) dL_put_504 rfl rfl (by omega) (fun hc504 => ?_) (fun hc504 => ?_)
        · refine wk_iconst (q := 519) dL_put_518 rfl ?_
          refine wk_goto (t := 531) dL_put_519 rfl ?_
          first
          | exact j531 (-1) _ (Or.inl rfl) (fun _ => by omega) _ rfl
          | exact j531 _ _ (Or.inr (by assumption)) (fun z => by omega) _ rfl
        · refine wk_iload (i := 12) (q := 509) dL_put_507 rfl rfl ?_
          refine wk_aload (i := 4) (q := 511) dL_put_509 rfl rfl ?_
          refine wk_iconst (q := 512) dL_put_511 rfl ?_
          refine wk_iald (q := 513) dL_put_512 rfl cT (by omega) ?_
          refine wk_iconst (q := 514) dL_put_513 rfl ?_
          refine wk_isub (q := 515) dL_put_514 rfl ?_
          refine wk_icmp_ge (t := 522) (q := 518) dL_put_515 rfl rfl (by omega) (by omega) (fun hc515 => ?_) (fun hc515 => ?_)
          · refine wk_iload (i := 13) (q := 524) dL_put_522 rfl rfl ?_
            refine wk_iconst (q := 525) dL_put_524 rfl ?_
            refine wk_ishr (q := 526) dL_put_525 rfl ?_
            refine wk_bipush (q := 528) dL_put_526 rfl (by decide +kernel) ?_
            refine wk_sP2 (q := 531) dL_put_528 rfl sl_L_15 (ct_some (by omega)) (qRo_mS ok_L_some (by decide) (Nat.le_refl _) (Nat.le_refl _)) (Nat.le_of_ble_eq_true rfl) (fun v528 hv528 => ?_)
            first
            | exact j531 (-1) _ (Or.inl rfl) (fun _ => by omega) _ rfl
            | exact j531 _ _ (Or.inr (by assumption)) (fun z => by omega) _ rfl
          · refine wk_iconst (q := 519) dL_put_518 rfl ?_
            refine wk_goto (t := 531) dL_put_519 rfl ?_
            first
            | exact j531 (-1) _ (Or.inl rfl) (fun _ => by omega) _ rfl
            | exact j531 _ _ (Or.inr (by assumption)) (fun z => by omega) _ rfl
end PUT2
