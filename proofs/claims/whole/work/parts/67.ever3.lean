/-! the class's Ever: placeBefore, findRing -/
theorem firstK_bd {mem : Nat → Int} {e : Nat} (k : Nat) : firstK mem e k = -1 ∨ (0 ≤ firstK mem e k ∧ firstK mem e k < k) := by
  rcases firstK_in (mem := mem) (e := e) k with ⟨a, -⟩ | ⟨j, j1, j2, -⟩
  · exact Or.inl a
  · exact Or.inr (by omega)
section EVER3
variable {l : Launch} {E : qEv} {n : Nat} {sh : qSh} {I L : qI} {R : qR}
theorem ct_X1_placeBefore {y : Nat} {mem : Nat → Int} {e : Nat} (hY : qEver E.2.2 n sh R y) (he : e ≤ 200) (hm : ∀ j : Nat, j ≤ e → I (y + 2) j = mem j ∧ in32 (mem j)) :
    Ct l E 0 mX1_placeBefore [.ref y, .int (zI (e : Int))] (n, sh, I, L, R) 0 0 (qP n sh I L R (fun v => v = if firstK mem e e = -1 then (e : Int) else firstK mem e e)) := by
  have loop : ∀ k : Nat, k ≤ e → (∀ j : Nat, j < k → mem j ≠ mem e) → Wk l E (qmo E 0 n 0 0 (qP n sh I L R (fun v => v = if firstK mem e e = -1 then (e : Int) else firstK mem e e))) mX1_placeBefore 0 0 2
      [(0, .ref y), (1, .int (zI (e : Int))), (2, .int (zI (k : Int)))] [] (n, sh, I, L, R) := by
    refine up_ind e ?_ ?_
    · intro hs
      have hf : firstK mem e e = -1 := by
        rcases firstK_in (mem := mem) (e := e) e with ⟨a, -⟩ | ⟨j, j1, -, j3, -⟩
        · exact a
        · exact absurd j3 (hs j j1)
      refine wk_iload_n (i := 2) (q := 3) dX1_placeBefore_2 rfl rfl rfl ?_
      refine wk_iload_n (i := 1) (q := 4) dX1_placeBefore_3 rfl rfl rfl ?_
      refine wk_icmp_ge (t := 28) (q := 7) dX1_placeBefore_4 rfl rfl (by omega) (by omega) (fun hc4 => ?_) (fun hc4 => ?_)
      · refine wk_iload_n (i := 2) (q := 29) dX1_placeBefore_28 rfl rfl rfl ?_
        refine wk_iret dX1_placeBefore_29 rfl ⟨Nat.le_refl _, Nat.le_refl _⟩ rfl ?_
        refine ⟨_, _, _, _, rfl, rfl, rfl, rfl, rfl, ?_⟩
        rw [if_pos hf]
      · omega
    · intro k hk ih hs
      have m1 := hm k (by omega)
      have m2 := hm e (Nat.le_refl _)
      have hit : mem k = mem e → firstK mem e e = k := fun q => by
        rcases firstK_in (mem := mem) (e := e) e with ⟨-, b⟩ | ⟨j, j1, j2, j3, j4⟩
        · exact absurd q (b k hk)
        · have : j = k := by
            by_cases z : j < k
            · exact absurd j3 (hs j z)
            · by_cases z2 : k < j
              · exact absurd q (j4 k z2)
              · omega
          rw [← this]
          exact j2
      refine wk_iload_n (i := 2) (q := 3) dX1_placeBefore_2 rfl rfl rfl ?_
      refine wk_iload_n (i := 1) (q := 4) dX1_placeBefore_3 rfl rfl rfl ?_
      refine wk_icmp_ge (t := 28) (q := 7) dX1_placeBefore_4 rfl rfl (by omega) (by omega) (fun hc4 => ?_) (fun hc4 => ?_)
      · refine wk_iload_n (i := 2) (q := 29) dX1_placeBefore_28 rfl rfl rfl ?_
        refine wk_iret dX1_placeBefore_29 rfl ⟨Nat.le_refl _, Nat.le_refl _⟩ rfl ?_
        refine ⟨_, _, _, _, rfl, rfl, rfl, rfl, rfl, ?_⟩
        first
        | (exfalso; omega)
        | (have h1 := hit hc19
           rw [h1, if_neg (by omega)])
      · refine wk_aload_n (i := 0) (q := 8) dX1_placeBefore_7 rfl rfl rfl ?_
        refine wk_getR (fi := 1) (q := 11) dX1_placeBefore_8 rfl fl_X1_15 rfl rfl hY.ob hY.r1 ?_
        refine wk_iload_n (i := 2) (q := 12) dX1_placeBefore_11 rfl rfl rfl ?_
        refine wk_iald (q := 13) dX1_placeBefore_12 rfl hY.s1 (by omega) ?_
        refine wk_aload_n (i := 0) (q := 14) dX1_placeBefore_13 rfl rfl rfl ?_
        refine wk_getR (fi := 1) (q := 17) dX1_placeBefore_14 rfl fl_X1_15 rfl rfl hY.ob hY.r1 ?_
        refine wk_iload_n (i := 1) (q := 18) dX1_placeBefore_17 rfl rfl rfl ?_
        refine wk_iald (q := 19) dX1_placeBefore_18 rfl hY.s1 (by omega) ?_
        rw [m1.1, m2.1]
        refine wk_icmp_eq (t := 28) (q := 22) dX1_placeBefore_19 rfl rfl (by omega) (by omega) (fun hc19 => ?_) (fun hc19 => ?_)
        · refine wk_iload_n (i := 2) (q := 29) dX1_placeBefore_28 rfl rfl rfl ?_
          refine wk_iret dX1_placeBefore_29 rfl ⟨Nat.le_refl _, Nat.le_refl _⟩ rfl ?_
          refine ⟨_, _, _, _, rfl, rfl, rfl, rfl, rfl, ?_⟩
          first
          | (exfalso; omega)
          | (have h1 := hit hc19
             rw [h1, if_neg (by omega)])
        · refine wk_iinc (lo' := [(0, _), (1, _), (2, _)]) (q := 25) dX1_placeBefore_22 rfl rfl (by decide) rfl ?_
          refine wk_goto (t := 2) dX1_placeBefore_25 rfl ?_
          refine ih (fun j hj => ?_)
          by_cases hq : j = k
          · rw [hq]
            exact hc19
          · exact hs j (by omega)
  refine Ct.of (lo := [(0, _), (1, _)]) ok_X1_placeBefore (Nat.le_of_ble_eq_true rfl) rfl ?_
  have l0 := loop 0 (Nat.zero_le _) (fun j hj => by omega)
  refine wk_iconst (q := 1) dX1_placeBefore_0 rfl ?_
  refine wk_istore_n (i := 2) (lo' := [(0, _), (1, _), (2, _)]) (q := 2) dX1_placeBefore_1 rfl rfl (by decide) rfl ?_
  exact l0
/-- what a walk of evenings writes -/
def frE (I I' : qI) (t y : Nat) : Prop := ∀ b i, ¬ (t ≤ b ∧ b < t + 38) → ¬ (y ≤ b ∧ b < y + 3) → I' b i = I b i
def Er (T : TT) (C : CC) (la : Int → Int) : Nat := (ringE (memE T C la) 200).toNat
def tailE (T : TT) (C : CC) (la : Int → Int) : Int := firstK (memE T C la) (Er T C la) (Er T C la)
def frP (I I' : qI) (t y : Nat) (T : TT) (C : CC) (la : Int → Int) : Prop := frE I I' t y ∧ shC I' t T C ∧ I' t 8 = -1 ∧ (∀ g, 0 ≤ g → g < T.ng → I' (t + 17) g = seqM T C la (Er T C la) g) ∧ I' y 2 = tailE T C la ∧ I' y 3 = (Er T C la : Int) - tailE T C la
theorem Er_ok {T : TT} (hT : T.ok) {C : CC} (hC : C.ok T) (hall : ∀ g, 0 ≤ g → g < T.ng → ∃ s, 0 ≤ s ∧ s < C.se ∧ tgt C s = g) {la : Int → Int} : 1 ≤ Er T C la ∧ Er T C la ≤ 129 ∧ ringE (memE T C la) 200 = Er T C la ∧ 0 ≤ tailE T C la ∧ tailE T C la < Er T C la := by
  have h1 := ring_129 hT hC hall (la := la)
  have h2 := ringE_up (mem := memE T C la) (N := 129) (by omega) 200 (by omega)
  have h3 : ringE (memE T C la) 200 = Er T C la := by
    unfold Er
    omega
  refine ⟨by omega, by omega, h3, ?_⟩
  -- it is the first that holds an earlier one's
  have h4 : firstK (memE T C la) (Er T C la) (Er T C la) ≠ -1 := by
    have key : ∀ N : Nat, ringE (memE T C la) N ≠ -1 → firstK (memE T C la) (ringE (memE T C la) N).toNat (ringE (memE T C la) N).toNat ≠ -1 := by
      intro N
      induction N with
      | zero => intro q; exact absurd rfl q
      | succ N ih =>
        intro q
        by_cases z : ringE (memE T C la) N = -1
        · by_cases z2 : firstK (memE T C la) (N + 1) (N + 1) = -1
          · exact absurd (ringE_go z z2) q
          · rw [ringE_at z z2, show ((N : Int) + 1).toNat = N + 1 by omega]
            exact z2
        · rw [ringE_up z (N + 1) (by omega)]
          exact ih z
    exact key 200 (by omega)
  unfold tailE
  rcases firstK_in (mem := memE T C la) (e := Er T C la) (Er T C la) with ⟨a, -⟩ | ⟨j, j1, j2, -⟩
  · exact absurd a h4
  · omega
theorem ct_X1_findRing {y t o : Nat} {T : TT} {C : CC} {la : Int → Int} (hY : qEver E.2.2 n sh R y) (hTb : qTab E.2.2 n sh R t o) (hot : o + 14 ≤ t) (hty : t + 38 ≤ y) (hok : T.ok) (hC : C.ok T) (hall : ∀ g, 0 ≤ g → g < T.ng → ∃ s, 0 ≤ s ∧ s < C.se ∧ tgt C s = g) (hsp : C.sp = -1) (hsT : shT I o T) (hsC : shC I t T C) (h8 : I t 8 = -1) (hla : ∀ g, 0 ≤ g → g < T.ng → I (t + 17) g = la g) (hLA : LA2 T la) :
    Ct l E 4 mX1_findRing [.ref y, .ref t] (n, sh, I, L, R) 0 0 (qV n sh (fun I' L' R' => L' = L ∧ R' = R ∧ frP I I' t y T C la)) := by
  have hn := hok.2.1
  have hn1 := hok.1
  have hE := Er_ok hok hC hall (la := la)
  have h129 := ring_129 hok hC hall (la := la)
  have sq := seqM_la2 hok (C := C) hLA
  have nd6 := hok.2.2.2.1
  have memB : ∀ e, 0 ≤ memE T C la e ∧ memE T C la e < 2097152 := fun e => by
    have k1 := memK_in (ng := T.ng.toNat) (la := seqM T C la e) (fun g g0 g1 => by have := sq e g g0 (by omega); omega) T.ng.toNat (Nat.le_refl _)
    have k3 : ((8 ^ T.ng.toNat : Nat) : Int) ≤ ((8 ^ 7 : Nat) : Int) := Int.ofNat_le.mpr (Nat.pow_le_pow_right (by omega) (by omega))
    have k4 : ((8 ^ 7 : Nat) : Int) = 2097152 := by decide
    have k5 : (8 : Int) ^ T.ng.toNat = ((8 ^ T.ng.toNat : Nat) : Int) := by rw [Int.natCast_pow]; rfl
    rw [k5] at k1
    unfold memE
    omega
  have loop : ∀ k : Nat, k ≤ 200 → ∀ I1 : qI, frE I I1 t y → shC I1 t T C → I1 t 8 = -1 → (∀ g, 0 ≤ g → g < T.ng → I1 (t + 17) g = seqM T C la k g) → (∀ j : Nat, j ≤ k → I1 (y + 2) j = memE T C la j) → ringE (memE T C la) k = -1 → Wk l E (qmo E 4 n 0 0 (qV n sh (fun I' L' R' => L' = L ∧ R' = R ∧ frP I I' t y T C la))) mX1_findRing 0 0 22
      [(0, .ref y), (1, .ref t), (2, .int (zI ((k : Int) + 1)))] [] (n, sh, I1, L, R) := by
    refine up_ind 200 ?_ ?_
    · intro I1 f1 f2 f3 f4 f5 f6
      exact absurd f6 (by omega)
    · intro k hk ih I1 f1 f2 f3 f4 f5 f6
      have hsT1 : shT I1 o T := hsT.cg hn (fun b i q1 q2 => f1 b i (by omega) (by omega))
      refine wk_iload_n (i := 2) (q := 23) dX1_findRing_22 rfl rfl rfl ?_
      refine wk_sipush (q := 26) dX1_findRing_23 rfl (by decide +kernel) ?_
      refine wk_icmp_gt (t := 73) (q := 29) dX1_findRing_26 rfl rfl (by omega) (by omega) (fun hc26 => ?_) (fun hc26 => ?_)
      · omega
      · refine wk_aload_n (i := 1) (q := 30) dX1_findRing_29 rfl rfl rfl ?_
        refine wk_cV0 (q := 33) dX1_findRing_30 rfl vl_X1_32 ⟨_, _, rfl⟩ hTb.1.ob (ct_X4_evening (la := seqM T C la k) hTb (by omega) hok hC hsT1 f2 f4 (sq k).ok (f3.trans hsp.symm)) (qRo_m ok_X4_evening (by decide) (Nat.le_refl _) (Nat.le_refl _)) (Nat.le_of_ble_eq_true rfl) (fun I30 L30 R30 hv30 => ?_)
        obtain ⟨rfl, rfl, g1, g2, g3, g4⟩ := hv30
        have e7 : I30 o 7 = T.ng := by rw [g1 _ _ (by omega) (by omega) (by omega) (by omega)]; exact hsT1.2.1
        have gl : ∀ g, 0 ≤ g → g < T.ng → I30 (t + 17) g = seqM T C la (k + 1) g := fun g g0 g1' => (g3.2 g g0 g1').1
        refine wk_aload_n (i := 0) (q := 34) dX1_findRing_33 rfl rfl rfl ?_
        refine wk_getR (fi := 1) (q := 37) dX1_findRing_34 rfl fl_X1_15 rfl rfl hY.ob hY.r1 ?_
        refine wk_iload_n (i := 2) (q := 38) dX1_findRing_37 rfl rfl rfl ?_
        refine wk_aload_n (i := 1) (q := 39) dX1_findRing_38 rfl rfl rfl ?_
        refine wk_cP0 (q := 42) dX1_findRing_39 rfl vl_X1_41 ⟨_, _, rfl⟩ hTb.1.ob (ct_X4_memory (la := seqM T C la (k + 1)) hTb e7 (by omega) (fun g g0 g1' => by have := sq (k + 1) g g0 g1'; exact ⟨gl g g0 g1', by omega, by omega⟩)) (qRo_m ok_X4_memory (by decide) (Nat.le_refl _) (Nat.le_refl _)) (Nat.le_of_ble_eq_true rfl) (fun v39 hv39 => ?_)
        have hv39' : v39 = memE T C la (k + 1) := hv39
        have mb := memB (k + 1)
        refine wk_iast (q := 43) dX1_findRing_42 rfl hY.s1 (by omega) ?_
        refine wk_aload_n (i := 0) (q := 44) dX1_findRing_43 rfl rfl rfl ?_
        refine wk_iload_n (i := 2) (q := 45) dX1_findRing_44 rfl rfl rfl ?_
        skip
        have fm : ∀ j : Nat, j ≤ k + 1 → up I30 (y + 2) ((k : Int) + 1) v39 (y + 2) j = memE T C la j ∧ in32 (memE T C la j) := fun j hj => by
          refine ⟨?_, by have := memB j; omega⟩
          by_cases hq : j = k + 1
          · rw [hq, show ((k + 1 : Nat) : Int) = (k : Int) + 1 by omega, up_eq]
            exact hv39'
          · rw [up_ni _ _ (by omega), g1 _ _ (by omega) (by omega) (by omega) (by omega)]
            exact f5 j (by omega)
        have fr : frE I (up I30 (y + 2) ((k : Int) + 1) v39) t y := fun b i q0 q1 => by rw [up_na _ _ _ _ (by omega), g1 _ _ (by omega) (by omega) (by omega) (by omega)]; exact f1 b i q0 q1
        have sC : shC (up I30 (y + 2) ((k : Int) + 1) v39) t T C := (f2.fv g1 hok).cg hn (fun b i q => up_na _ _ _ _ (by omega))
        refine wk_cP1 (q := 48) dX1_findRing_45 rfl vl_X1_45 ⟨_, _, rfl⟩ hY.ob (ct_X1_placeBefore (mem := memE T C la) (e := k + 1) hY (by omega) fm) (qRo_m ok_X1_placeBefore (by decide) (Nat.le_refl _) (Nat.le_refl _)) (Nat.le_of_ble_eq_true rfl) (fun v45 hv45 => ?_)
        have kb := firstK_bd (mem := memE T C la) (e := k + 1) (k + 1)
        refine wk_istore_n (i := 3) (lo' := [(0, _), (1, _), (2, _), (3, _)]) (q := 49) dX1_findRing_48 rfl rfl (by decide) rfl ?_
        refine wk_iload_n (i := 3) (q := 50) dX1_findRing_49 rfl rfl rfl ?_
        refine wk_iload_n (i := 2) (q := 51) dX1_findRing_50 rfl rfl rfl ?_
        refine wk_icmp_ge (t := 67) (q := 54) dX1_findRing_51 rfl rfl (by omega) (by omega) (fun hc51 => ?_) (fun hc51 => ?_)
        · refine wk_iinc (lo' := [(0, _), (1, _), (2, _), (3, _)]) (q := 70) dX1_findRing_67 rfl rfl (by decide) rfl ?_
          refine wk_goto (t := 22) dX1_findRing_70 rfl ?_
          refine wk_del (i := 3) (lo' := [(0, _), (1, _), (2, _)]) rfl ?_
          have hf : firstK (memE T C la) (k + 1) (k + 1) = -1 := by
            rcases firstK_in (mem := memE T C la) (e := k + 1) (k + 1) with ⟨a, -⟩ | ⟨j, j1, j2, -⟩
            · exact a
            · rw [if_neg (by omega)] at hv45
              omega
          exact ih _ fr sC (by rw [up_na _ _ _ _ (by omega)]; exact g2) (fun g g0 g1' => by rw [up_na _ _ _ _ (by omega)]; exact gl g g0 g1') (fun j hj => (fm j hj).1) (ringE_go f6 hf)
        · refine wk_aload_n (i := 0) (q := 55) dX1_findRing_54 rfl rfl rfl ?_
          refine wk_iload_n (i := 3) (q := 56) dX1_findRing_55 rfl rfl rfl ?_
          refine wk_putI (fi := 2) (q := 59) dX1_findRing_56 rfl fl_X1_38 fw_1_2 rfl rfl hY.ob ?_
          refine wk_aload_n (i := 0) (q := 60) dX1_findRing_59 rfl rfl rfl ?_
          refine wk_iload_n (i := 2) (q := 61) dX1_findRing_60 rfl rfl rfl ?_
          refine wk_iload_n (i := 3) (q := 62) dX1_findRing_61 rfl rfl rfl ?_
          refine wk_isub (q := 63) dX1_findRing_62 rfl ?_
          refine wk_putI (fi := 3) (q := 66) dX1_findRing_63 rfl fl_X1_18 fw_1_3 rfl rfl hY.ob ?_
          refine wk_ret dX1_findRing_66 rfl ⟨Nat.le_refl _, Nat.le_refl _⟩ rfl ?_
          have hf : firstK (memE T C la) (k + 1) (k + 1) ≠ -1 := fun z => by rw [if_pos z] at hv45; omega
          rw [if_neg hf] at hv45
          have hr := ringE_at f6 hf
          have hr2 := ringE_up (mem := memE T C la) (N := k + 1) (by omega) 200 (by omega)
          have hEk : Er T C la = k + 1 := by omega
          have htl : tailE T C la = v45 := by
            unfold tailE
            rw [hEk]
            exact hv45.symm
          refine ⟨_, _, _, rfl, rfl, rfl, rfl, fun b i q0 q1 => ?_, sC.cg hn (fun b i q => ?_), ?_, fun g g0 g1' => ?_, ?_, ?_⟩
          · rw [up_na _ _ _ _ (by omega), up_na _ _ _ _ (by omega)]
            exact fr b i q0 q1
          · rw [up_na _ _ _ _ (by omega), up_na _ _ _ _ (by omega)]
          · rw [up_na _ _ _ _ (by omega), up_na _ _ _ _ (by omega), up_na _ _ _ _ (by omega)]
            exact g2
          · rw [hEk, up_na _ _ _ _ (by omega), up_na _ _ _ _ (by omega), up_na _ _ _ _ (by omega)]
            exact gl g g0 g1'
          · rw [up_ni _ _ (by omega), up_eq, htl]
          · rw [up_eq, htl, hEk]
            omega
  refine Ct.of (lo := [(0, _), (1, _)]) ok_X1_findRing (Nat.le_of_ble_eq_true rfl) rfl ?_
  have e7 : up (up I y 2 0) y 3 1 o 7 = T.ng := by rw [up_na _ _ _ _ (by omega), up_na _ _ _ _ (by omega)]; exact hsT.2.1
  refine wk_aload_n (i := 0) (q := 1) dX1_findRing_0 rfl rfl rfl ?_
  refine wk_iconst (q := 2) dX1_findRing_1 rfl ?_
  refine wk_putI (fi := 2) (q := 5) dX1_findRing_2 rfl fl_X1_38 fw_1_2 rfl rfl hY.ob ?_
  refine wk_aload_n (i := 0) (q := 6) dX1_findRing_5 rfl rfl rfl ?_
  refine wk_iconst (q := 7) dX1_findRing_6 rfl ?_
  refine wk_putI (fi := 3) (q := 10) dX1_findRing_7 rfl fl_X1_18 fw_1_3 rfl rfl hY.ob ?_
  refine wk_aload_n (i := 0) (q := 11) dX1_findRing_10 rfl rfl rfl ?_
  refine wk_getR (fi := 1) (q := 14) dX1_findRing_11 rfl fl_X1_15 rfl rfl hY.ob hY.r1 ?_
  refine wk_iconst (q := 15) dX1_findRing_14 rfl ?_
  refine wk_aload_n (i := 1) (q := 16) dX1_findRing_15 rfl rfl rfl ?_
  refine wk_cP0 (q := 19) dX1_findRing_16 rfl vl_X1_41 ⟨_, _, rfl⟩ hTb.1.ob (ct_X4_memory (la := la) hTb e7 (by omega) (fun g g0 g1' => by have := hLA g g0 g1'; exact ⟨by rw [up_na _ _ _ _ (by omega), up_na _ _ _ _ (by omega)]; exact hla g g0 g1', by omega, by omega⟩)) (qRo_m ok_X4_memory (by decide) (Nat.le_refl _) (Nat.le_refl _)) (Nat.le_of_ble_eq_true rfl) (fun v16 hv16 => ?_)
  have mb := memB 0
  have hv16' : v16 = memE T C la 0 := hv16
  refine wk_iast (q := 20) dX1_findRing_19 rfl hY.s1 (by omega) ?_
  refine wk_iconst (q := 21) dX1_findRing_20 rfl ?_
  refine wk_istore_n (i := 2) (lo' := [(0, _), (1, _), (2, _)]) (q := 22) dX1_findRing_21 rfl rfl (by decide) rfl ?_
  refine loop 0 (by omega) _ (fun b i q0 q1 => by rw [up_na _ _ _ _ (by omega), up_na _ _ _ _ (by omega), up_na _ _ _ _ (by omega)]) (hsC.cg hn (fun b i q => by rw [up_na _ _ _ _ (by omega), up_na _ _ _ _ (by omega), up_na _ _ _ _ (by omega)])) (by rw [up_na _ _ _ _ (by omega), up_na _ _ _ _ (by omega), up_na _ _ _ _ (by omega)]; exact h8) (fun g g0 g1' => by rw [up_na _ _ _ _ (by omega), up_na _ _ _ _ (by omega), up_na _ _ _ _ (by omega)]; exact hla g g0 g1') (fun j hj => ?_) rfl
  rw [show j = 0 by omega]
  show up (up (up I y 2 0) y 3 1) (y + 2) 0 v16 (y + 2) 0 = _
  rw [up_eq]
  exact hv16'
end EVER3
