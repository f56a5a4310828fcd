/-! the class's best -/
noncomputable def zBest (T : TT) (C : CC) : Int := Classical.epsilon (isBest T C)
theorem isBest.z {T : TT} {C : CC} (hC : C.now T) {z : Int} (h : isBest T C z) : zBest T C = z := (Classical.epsilon_spec (p := isBest T C) ⟨z, h⟩).un hC h
noncomputable def r_best (V : VV) (q : Int) : Int := if q < -1 ∨ V.T.ng ≤ q then -1 else if ¬ 0 < V.T.ng then -3 else if q = -1 then zBest V.T V.C / 10000000 else if zBest V.T V.C / p10 q.toNat % 10 = 0 then -9 else 9 - zBest V.T V.C / p10 q.toNat % 10
theorem isBest.bd {T : TT} (hT : T.ok) {C : CC} (hC : C.now T) {z : Int} (h : isBest T C z) : 0 ≤ z ∧ z ≤ 12033000000 := by
  obtain ⟨wt, w1, ⟨r, r1, r2⟩, -⟩ := h
  have hng := hT.2.1
  have hng0 := hT.1
  have := codeR_in hT (w1.bd hT hC) (r := r) (fun g hg => by
    rcases r1.1 g (by omega) hg with q | q
    · omega
    · exact Or.inr q) T.ng.toNat (by omega)
  omega
/-- what the class keeps of the best is written -/
theorem CI0.bst {b n : Nat} {sh : qSh} {x : Nat} {I L I' L' : qI} {R : qR} {V : VV} {o d u1 u2 u3 : Nat} (h : CI0 b n sh x I L R V o d u1 u2 u3) (hI : ∀ c i, ¬ (c = x + 150 ∧ i = 0) → c ≠ x + 153 → I' c i = I c i) (hB : caB I' L' x V.T V.C) : CI0 b n sh x I' L' R V o d u1 u2 u3 := by
  have hT2 := h.2.2.2.2.2.2.2.1.2
  have hng := h.2.2.1.ng
  refine h.gen h.1 rfl h.2.2.1 (fun c i q1 q2 => hI c i (by omega) (by omega)) (by rw [hI _ _ (by omega) (by omega)]; exact h.2.2.2.1) (by rw [hI _ _ (by omega) (by omega)]; exact h.2.2.2.2.1) (by rw [hI _ _ (by omega) (by omega)]; exact h.2.2.2.2.2.1) (h.2.2.2.2.2.2.1.cg ⟨rfl, rfl, rfl, rfl⟩ (fun c i q1 q2 => hI c i (by omega) (by omega))) (fun q => ?_) (fun q => ?_) hB ?_
  · rcases hT2 with z | z
    · rw [hI _ _ (by omega) (by omega), hI _ _ (by omega) (by omega)]
      exact z.2
    · omega
  · rcases hT2 with z | ⟨z1, z2, z3, z4, z5⟩
    · omega
    · exact ⟨z3.cg hng.2.1 (fun c i q => hI c i (by omega) (by omega)), by rw [hI _ _ (by omega) (by omega)]; exact z4, fun g g0 g1 => by rw [hI _ _ (by omega) (by omega)]; exact z5 g g0 g1⟩
  · have := h.2.2.2.2.2.2.2.2.2
    unfold caS at this ⊢
    rw [hI _ _ (by omega) (by omega)]
    rcases this with z | ⟨z1, z2, z3⟩
    · exact Or.inl z
    · exact Or.inr ⟨z1, z2, fun aim a0 a1 => ⟨by rw [hI _ _ (by omega) (by omega)]; exact (z3 aim a0 a1).1, fun s s0 s1 => by rw [hI _ _ (by omega) (by omega)]; exact (z3 aim a0 a1).2 s s0 s1⟩⟩
section BEST4
variable {l : Launch} {E : qEv} {n : Nat} {sh : qSh} {I L : qI} {R : qR}
theorem ct_X0_gladInAll {b : Nat} (hB : qBest E.2.2 n sh R b) (hz : 0 ≤ L b 4 ∧ L b 4 ≤ 12033000000) :
    Ct l E 0 mX0_gladInAll [.ref b] (n, sh, I, L, R) 0 0 (qP n sh I L R (fun v => v = L b 4 / 10000000)) := by
  refine Ct.of (lo := [(0, _)]) ok_X0_gladInAll (Nat.le_of_ble_eq_true rfl) rfl ?_
  refine wk_aload_n (i := 0) (q := 1) dX0_gladInAll_0 rfl rfl rfl ?_
  refine wk_getJ (fi := 4) (q := 4) dX0_gladInAll_1 rfl fl_X0_66 rfl rfl hB.ob ?_
  refine wk_ldc2 (z := 10000000) (q := 7) dX0_gladInAll_4 rfl (v := 10000000) (qtb_in 597 (by decide +kernel) (by decide +kernel)) rfl ?_
  refine wk_ldiv (q := 8) dX0_gladInAll_7 rfl (by omega) (by omega) ?_
  refine wk_l2i (q := 9) dX0_gladInAll_8 rfl ?_
  refine wk_iret dX0_gladInAll_9 rfl ⟨Nat.le_refl _, Nat.le_refl _⟩ rfl ?_
  refine ⟨_, _, _, _, rfl, rfl, rfl, rfl, rfl, ?_⟩
  rfl
theorem ct_X0_dishOf {b : Nat} {g : Int} (hB : qBest E.2.2 n sh R b) (hz : 0 ≤ L b 4 ∧ L b 4 ≤ 12033000000) (hg : 0 ≤ g ∧ g < 7) :
    Ct l E 1 mX0_dishOf [.ref b, .int (zI g)] (n, sh, I, L, R) 0 0 (qP n sh I L R (fun v => v = if L b 4 / p10 g.toNat % 10 = 0 then -9 else 9 - L b 4 / p10 g.toNat % 10)) := by
  have hp := p10_in g.toNat
  have h0 : 0 ≤ L b 4 / p10 g.toNat := Int.ediv_nonneg hz.1 (by omega)
  have h1 : L b 4 / p10 g.toNat ≤ L b 4 := Int.ediv_le_self _ hz.1
  refine Ct.of (lo := [(0, _), (1, _)]) ok_X0_dishOf (Nat.le_of_ble_eq_true rfl) rfl ?_
  refine wk_aload_n (i := 0) (q := 1) dX0_dishOf_0 rfl rfl rfl ?_
  refine wk_getJ (fi := 4) (q := 4) dX0_dishOf_1 rfl fl_X0_66 rfl rfl hB.ob ?_
  refine wk_iload_n (i := 1) (q := 5) dX0_dishOf_4 rfl rfl rfl ?_
  refine wk_sJ1 (q := 8) dX0_dishOf_5 rfl sl_X0_80 (ct_X0_unit hg) (qRo_m ok_X0_unit (by decide) (Nat.le_refl _) (Nat.le_refl _)) (Nat.le_of_ble_eq_true rfl) (fun v5 I5 L5 R5 hv5 => ?_)
  obtain ⟨rfl, q1, q2, q3⟩ := hv5
  subst I5 L5 R5
  refine wk_ldiv (q := 9) dX0_dishOf_8 rfl (by omega) (by omega) ?_
  refine wk_ldc2 (z := 10) (q := 12) dX0_dishOf_9 rfl (v := 10) (qtb_in 601 (by decide +kernel) (by decide +kernel)) rfl ?_
  refine wk_lrem (q := 13) dX0_dishOf_12 rfl (by omega) (by omega) ?_
  refine wk_l2i (q := 14) dX0_dishOf_13 rfl ?_
  refine wk_istore_n (i := 2) (lo' := [(0, _), (1, _), (2, _)]) (q := 15) dX0_dishOf_14 rfl rfl (by decide) rfl ?_
  refine wk_iload_n (i := 2) (q := 16) dX0_dishOf_15 rfl rfl rfl ?_
  refine wk_if_ne (t := 24) (q := 19) dX0_dishOf_16 rfl rfl (by omega) (fun hc16 => ?_) (fun hc16 => ?_)
  · refine wk_bipush (q := 26) dX0_dishOf_24 rfl (by decide +kernel) ?_
    refine wk_iload_n (i := 2) (q := 27) dX0_dishOf_26 rfl rfl rfl ?_
    refine wk_isub (q := 28) dX0_dishOf_27 rfl ?_
    refine wk_iret dX0_dishOf_28 rfl ⟨Nat.le_refl _, Nat.le_refl _⟩ rfl ?_
    refine ⟨_, _, _, _, rfl, rfl, rfl, rfl, rfl, ?_⟩
    first
      | rw [if_pos (by omega)]
      | rw [if_neg (by omega)]
  · refine wk_bipush (q := 21) dX0_dishOf_19 rfl (by decide +kernel) ?_
    refine wk_goto (t := 28) dX0_dishOf_21 rfl ?_
    refine wk_iret dX0_dishOf_28 rfl ⟨Nat.le_refl _, Nat.le_refl _⟩ rfl ?_
    refine ⟨_, _, _, _, rfl, rfl, rfl, rfl, rfl, ?_⟩
    first
      | rw [if_pos (by omega)]
      | rw [if_neg (by omega)]
theorem oc_best {x : Nat} {V : VV} {q : Int} (h : CI E.2.2 n sh x I L R V) (hq : in32 q) :
    Ct l E 3 mX6_best [.ref x, .int (zI q)] (n, sh, I, L, R) 0 0 (qZ n sh (cpZ E.2.2 n sh x I R (r_best V q) V)) := by
  obtain ⟨o, dr, w1, w2, w3, hh⟩ := id h
  obtain ⟨hX, hod, hok, h10, h11, h12, hS, hT, hB, hC⟩ := id hh
  have hng := hok.ng
  have e7 := hT.1.2.1
  have kb : I (x + 150) 0 = 0 ∨ (I (x + 150) 0 = 1 ∧ 0 < V.T.ng ∧ isBest V.T V.C (L (x + 150) 4)) := hB
  have key : ∀ (I1 L1 : qI), -1 ≤ q → q < V.T.ng → 0 < V.T.ng → CI0 E.2.2 n sh x I1 L1 R V o dr w1 w2 w3 → frO I I1 x 167 → isBest V.T V.C (L1 (x + 150) 4) → Wk l E (qmo E 3 n 0 0 (qZ n sh (cpZ E.2.2 n sh x I R (r_best V q) V))) mX6_best 0 0 49 [(0, .ref x), (1, .int (zI q))] [] (n, sh, I1, L1, R) := by
    intro I1 L1 q0 q1 hp hh f1 hb
    obtain ⟨t1, t2, t3⟩ := hok.tab hp
    have hz := hb.bd t1 t2
    have ez := hb.z t2
    have hX := hh.1
    refine wk_iload_n (i := 1) (q := 50) dX6_best_49 rfl rfl rfl ?_
    refine wk_iconst (q := 51) dX6_best_50 rfl ?_
    refine wk_icmp_ne (t := 64) (q := 54) dX6_best_51 rfl rfl (by omega) (by omega) (fun hc51 => ?_) (fun hc51 => ?_)
    · refine wk_aload_n (i := 0) (q := 65) dX6_best_64 rfl rfl rfl ?_
      refine wk_getR (fi := 8) (q := 68) dX6_best_65 rfl fl_X6_53 rfl rfl hX.ob hX.r8 ?_
      refine wk_iload_n (i := 1) (q := 69) dX6_best_68 rfl rfl rfl ?_
      refine wk_cP1 (q := 72) dX6_best_69 rfl vl_X6_194 ⟨_, _, rfl⟩ hX.o8.ob (ct_X0_dishOf hX.o8 hz (by omega)) (qRo_m ok_X0_dishOf (by decide) (Nat.le_refl _) (Nat.le_refl _)) (Nat.le_of_ble_eq_true rfl) (fun v69 hv69 => ?_)
      have hv : v69 = r_best V q := by
        unfold r_best
        rw [if_neg (by omega), if_neg (by omega), if_neg (by omega), ez]
        exact hv69
      refine wk_iret dX6_best_72 rfl ⟨Nat.le_refl _, Nat.le_refl _⟩ rfl ?_
      exact ⟨_, _, _, _, rfl, rfl, hv, hh.ci, f1, fun _ _ _ => rfl⟩
    · refine wk_aload_n (i := 0) (q := 55) dX6_best_54 rfl rfl rfl ?_
      refine wk_getR (fi := 8) (q := 58) dX6_best_55 rfl fl_X6_53 rfl rfl hX.ob hX.r8 ?_
      refine wk_cP0 (q := 61) dX6_best_58 rfl vl_X6_193 ⟨_, _, rfl⟩ hX.o8.ob (ct_X0_gladInAll hX.o8 hz) (qRo_m ok_X0_gladInAll (by decide) (Nat.le_refl _) (Nat.le_refl _)) (Nat.le_of_ble_eq_true rfl) (fun v58 hv58 => ?_)
      have hv : v58 = r_best V q := by
        unfold r_best
        rw [if_neg (by omega), if_neg (by omega), if_pos (by omega), ez]
        exact hv58
      refine wk_goto (t := 72) dX6_best_61 rfl ?_
      refine wk_iret dX6_best_72 rfl ⟨Nat.le_refl _, Nat.le_refl _⟩ rfl ?_
      exact ⟨_, _, _, _, rfl, rfl, hv, hh.ci, f1, fun _ _ _ => rfl⟩
  refine Ct.of (lo := [(0, _), (1, _)]) ok_X6_best (Nat.le_of_ble_eq_true rfl) rfl ?_
  refine wk_iload_n (i := 1) (q := 1) dX6_best_0 rfl rfl rfl ?_
  refine wk_iconst (q := 2) dX6_best_1 rfl ?_
  refine wk_icmp_lt (t := 16) (q := 5) dX6_best_2 rfl rfl (by omega) (by omega) (fun hc2 => ?_) (fun hc2 => ?_)
  · refine wk_iconst (q := 17) dX6_best_16 rfl ?_
    refine wk_iret dX6_best_17 rfl ⟨Nat.le_refl _, Nat.le_refl _⟩ rfl ?_
    refine cp_same h rfl ?_
    unfold r_best
    first
      | rw [if_pos (by omega)]
      | rw [if_neg (by omega), if_pos hv19]
  · refine wk_iload_n (i := 1) (q := 6) dX6_best_5 rfl rfl rfl ?_
    refine wk_aload_n (i := 0) (q := 7) dX6_best_6 rfl rfl rfl ?_
    refine wk_getR (fi := 1) (q := 10) dX6_best_7 rfl fl_X6_20 rfl rfl hX.ob hX.r1 ?_
    refine wk_getI (fi := 7) (q := 13) dX6_best_10 rfl fl_X6_88 rfl rfl hX.o1.ob ?_
    refine wk_icmp_lt (t := 18) (q := 16) dX6_best_13 rfl rfl (by omega) (by omega) (fun hc13 => ?_) (fun hc13 => ?_)
    · refine wk_aload_n (i := 0) (q := 19) dX6_best_18 rfl rfl rfl ?_
      refine wk_cP0 (q := 22) dX6_best_19 rfl vl_X6_138 ⟨_, _, rfl⟩ hX.ob (ct_X6_isTable hX (by omega)) (qRo_m ok_X6_isTable (by decide) (Nat.le_refl _) (Nat.le_refl _)) (Nat.le_of_ble_eq_true rfl) (fun v19 hv19 => ?_)
      rcases hv19 with ⟨rfl, hv19⟩ | ⟨rfl, hv19⟩
      · rw [e7] at hv19
        refine wk_if_ne (t := 28) (q := 25) dX6_best_22 rfl rfl (by omega) (fun _ => ?_) (fun hq => absurd hq (by decide))
        refine wk_aload_n (i := 0) (q := 29) dX6_best_28 rfl rfl rfl ?_
        refine wk_getR (fi := 8) (q := 32) dX6_best_29 rfl fl_X6_53 rfl rfl hX.ob hX.r8 ?_
        refine wk_getZ (fi := 0) (q := 35) dX6_best_32 rfl fl_X6_185 rfl rfl hX.o8.ob ?_
        refine wk_if_ne (t := 49) (q := 38) dX6_best_35 rfl rfl (by omega) (fun hc35 => ?_) (fun hc35 => ?_)
        · skip
          first
            | exact key _ _ (by omega) (by omega) (by omega) hh2 (fun c i q => f1 c i (by omega) (by omega)) f3
            | (rcases kb with z | ⟨z1, z2, z3⟩
               · omega
               · exact key _ _ (by omega) (by omega) z2 hh (fun _ _ _ => rfl) z3)
        · refine wk_aload_n (i := 0) (q := 39) dX6_best_38 rfl rfl rfl ?_
          refine wk_getR (fi := 8) (q := 42) dX6_best_39 rfl fl_X6_53 rfl rfl hX.ob hX.r8 ?_
          refine wk_aload_n (i := 0) (q := 43) dX6_best_42 rfl rfl rfl ?_
          refine wk_getR (fi := 3) (q := 46) dX6_best_43 rfl fl_X6_30 rfl rfl hX.ob hX.r3 ?_
          refine wk_cV1 (q := 49) dX6_best_46 rfl vl_X6_189 ⟨_, _, rfl⟩ hX.o8.ob (ct_X0_find hX.o8 (by rw [← (hh.full (by omega)).2.2.2.1]; exact hX.t3) ⟨by have := hh.otx; omega, by omega⟩ (hok.tab (by omega)).1 (hok.tab (by omega)).2.1 hT.1 (hh.full (by omega)).2.2.2.2.1) (qRo_m ok_X0_find (by decide) (Nat.le_refl _) (Nat.le_refl _)) (Nat.le_of_ble_eq_true rfl) (fun I46 L46 R46 hv46 => ?_)
          obtain ⟨rfl, f1, f2, f3⟩ := hv46
          have hh2 := hh.bst (I' := I46) (L' := L46) f1 (Or.inr ⟨f2, by omega, f3⟩)
          skip
          first
            | exact key _ _ (by omega) (by omega) (by omega) hh2 (fun c i q => f1 c i (by omega) (by omega)) f3
            | (rcases kb with z | ⟨z1, z2, z3⟩
               · omega
               · exact key _ _ (by omega) (by omega) z2 hh (fun _ _ _ => rfl) z3)
      · rw [e7] at hv19
        refine wk_if_ne (t := 28) (q := 25) dX6_best_22 rfl rfl (by omega) (fun hq => absurd hq (by decide)) (fun _ => ?_)
        refine wk_bipush (q := 27) dX6_best_25 rfl (by decide +kernel) ?_
        refine wk_iret dX6_best_27 rfl ⟨Nat.le_refl _, Nat.le_refl _⟩ rfl ?_
        refine cp_same h rfl ?_
        unfold r_best
        first
          | rw [if_pos (by omega)]
          | rw [if_neg (by omega), if_pos hv19]
    · refine wk_iconst (q := 17) dX6_best_16 rfl ?_
      refine wk_iret dX6_best_17 rfl ⟨Nat.le_refl _, Nat.le_refl _⟩ rfl ?_
      refine cp_same h rfl ?_
      unfold r_best
      first
        | rw [if_pos (by omega)]
        | rw [if_neg (by omega), if_pos hv19]
end BEST4
