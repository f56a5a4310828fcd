/-! the reference's rings: findRing -/
def frR (I I' : qI) (m : Nat) : Prop := ∀ b i, ¬ (b = m ∧ (i = 28 ∨ i = 30 ∨ i = 33 ∨ i = 45 ∨ i = 46)) → ¬ (m + 19 ≤ b ∧ b ≤ m + 25) → b ≠ m + 31 → I' b i = I b i
section EVER8
variable {l : Launch} {E : qEv} {n : Nat} {sh : qSh} {I L : qI} {R : qR}
def rgP (I I' : qI) (m : Nat) (T : TT) (C : CC) (la : Int → Int) : Prop := frR I I' m ∧ mT I' m T ∧ mC I' m T C ∧ I' m 33 = -9 ∧ (∀ g, 0 ≤ g → g < T.ng → I' (m + 20) g = seqM T C la (Er T C la) g) ∧ I' m 45 = tailE T C la ∧ I' m 46 = ringL T C la
theorem findRing_end {m : Nat} {T : TT} {C : CC} {la : Int → Int} {I4 : qI} {k : Int} (hM : qMod E.2.2 n sh R m) (fr : frR I I4 m) (r2 : mT I4 m T) (r3 : mC I4 m T C) (r4 : I4 m 33 = -9) (r5 : ∀ g, 0 ≤ g → g < T.ng → I4 (m + 20) g = seqM T C la (Er T C la) g) (e45 : I4 m 45 = tailE T C la) (hk : ringL T C la = k - tailE T C la) (htl : 0 ≤ tailE T C la ∧ tailE T C la ≤ 200) :
    Wk l E (qmo E 5 n 0 0 (qV n sh (fun I' L' R' => L' = L ∧ R' = R ∧ rgP I I' m T C la))) mX7_findRing 0 0 13 [(0, .ref m), (1, .int (zI k))] [] (n, sh, I4, L, R) := by
  refine wk_aload_n (i := 0) (q := 14) dX7_findRing_13 rfl rfl rfl ?_
  refine wk_getI (fi := 45) (q := 17) dX7_findRing_14 rfl fl_X7_281 rfl rfl hM.ob ?_
  refine wk_bipush (q := 19) dX7_findRing_17 rfl (by decide +kernel) ?_
  refine wk_icmp_ne (t := 46) (q := 22) dX7_findRing_19 rfl rfl (by omega) (by omega) (fun hc19 => ?_) (fun hc19 => ?_)
  · refine wk_aload_n (i := 0) (q := 47) dX7_findRing_46 rfl rfl rfl ?_
    refine wk_iload_n (i := 1) (q := 48) dX7_findRing_47 rfl rfl rfl ?_
    refine wk_aload_n (i := 0) (q := 49) dX7_findRing_48 rfl rfl rfl ?_
    refine wk_getI (fi := 45) (q := 52) dX7_findRing_49 rfl fl_X7_281 rfl rfl hM.ob ?_
    refine wk_isub (q := 53) dX7_findRing_52 rfl ?_
    refine wk_putI (fi := 46) (q := 56) dX7_findRing_53 rfl fl_X7_287 fw_7_46 rfl rfl hM.ob ?_
    refine wk_ret dX7_findRing_56 rfl ⟨Nat.le_refl _, Nat.le_refl _⟩ rfl ?_
    refine ⟨_, _, _, rfl, rfl, rfl, rfl, fun b i q0 q1 q2 => by rw [up_off (by omega)]; exact fr b i q0 q1 q2, r2.cg (fun b i q => up_off (by omega)), r3.cg (fun b i q => up_off (by omega)), by rw [up_off (by omega)]; exact r4, fun g g0 g1 => by rw [up_na _ _ _ _ (by omega)]; exact r5 g g0 g1, by rw [up_off (by omega)]; exact e45, by rw [up_eq, e45, hk]⟩
  · omega
theorem ct_X7_findRing {m : Nat} {T : TT} {C : CC} {la : Int → Int} (hM : qMod E.2.2 n sh R m) (hok : T.ok) (hC : C.ok T) (hall : ∀ g, 0 ≤ g → g < T.ng → ∃ s, 0 ≤ s ∧ s < C.se ∧ tgt C s = g) (hsp : mS C = -9) (hmT : mT I m T) (hmC : mC I m T C) (h33 : I m 33 = -9) (hla : ∀ g, 0 ≤ g → g < T.ng → I (m + 20) g = la g) (hLA : LA2 T la) :
    Ct l E 5 mX7_findRing [.ref m] (n, sh, I, L, R) 0 0 (qV n sh (fun I' L' R' => L' = L ∧ R' = R ∧ rgP I I' m T C la)) := by
  have hn := hok.2.1
  have hn1 := hok.1
  have nd6 := hok.2.2.2.1
  have hE := Er_ok hok hC hall (la := la)
  have h129 := ring_129 hok hC hall (la := la)
  have sq := seqM_la2 hok (C := C) hLA
  have loop : ∀ k : Nat, k ≤ 200 → ∀ I1 : qI, frR I I1 m → mT I1 m T → mC I1 m T C → I1 m 33 = -9 → (∀ g, 0 ≤ g → g < T.ng → I1 (m + 20) g = seqM T C la k g) → (∀ j : Nat, j ≤ k → ∀ g, 0 ≤ g → g < T.ng → I1 (m + 31) (7 * (j : Int) + g) = seqM T C la j g) → ringE (memE T C la) k = -1 → I1 m 45 = -9 → Wk l E (qmo E 5 n 0 0 (qV n sh (fun I' L' R' => L' = L ∧ R' = R ∧ rgP I I' m T C la))) mX7_findRing 0 0 13
      [(0, .ref m), (1, .int (zI (k : Int)))] [] (n, sh, I1, L, R) := by
    refine up_ind 200 ?_ ?_
    · intro I1 f1 f2 f3 f4 f5 f6 f7
      exact absurd f7 (by omega)
    · intro k hk ih I1 f1 f2 f3 f4 f5 f6 f7 f8
      have kb := firstK_bd (mem := memE T C la) (e := k + 1) (k + 1)
      refine wk_aload_n (i := 0) (q := 14) dX7_findRing_13 rfl rfl rfl ?_
      refine wk_getI (fi := 45) (q := 17) dX7_findRing_14 rfl fl_X7_281 rfl rfl hM.ob ?_
      refine wk_bipush (q := 19) dX7_findRing_17 rfl (by decide +kernel) ?_
      refine wk_icmp_ne (t := 46) (q := 22) dX7_findRing_19 rfl rfl (by omega) (by omega) (fun hc19 => ?_) (fun hc19 => ?_)
      · omega
      · refine wk_aload_n (i := 0) (q := 23) dX7_findRing_22 rfl rfl rfl ?_
        refine wk_cV0 (q := 26) dX7_findRing_23 rfl vl_X7_227 ⟨_, _, rfl⟩ hM.ob (ct_nightC (la := seqM T C la k) hM hok hC f2 f3 f5 (sq k).ok (f4.trans hsp.symm)) (qRo_m ok_X7_goNight (by decide) (Nat.le_refl _) (Nat.le_refl _)) (Nat.le_of_ble_eq_true rfl) (fun I23 L23 R23 hv23 => ?_)
        obtain ⟨rfl, rfl, g1, g2, g3⟩ := hv23
        have gl : ∀ g, 0 ≤ g → g < T.ng → I23 (m + 20) g = seqM T C la (k + 1) g := fun g g0 g1' => (g3.2.2.1.2 g g0 g1').1
        have e5 : I23 m 5 = T.ng := by rw [g1 _ _ (by omega) (by omega)]; exact f2.1
        refine wk_iinc (lo' := [(0, _), (1, _)]) (q := 29) dX7_findRing_26 rfl rfl (by decide) rfl ?_
        refine wk_aload_n (i := 0) (q := 30) dX7_findRing_29 rfl rfl rfl ?_
        refine wk_iload_n (i := 1) (q := 31) dX7_findRing_30 rfl rfl rfl ?_
        refine wk_cV1 (q := 34) dX7_findRing_31 rfl vl_X7_278 ⟨_, _, rfl⟩ hM.ob (ct_X7_keepMemory hM e5 (by omega) (by omega) (fun i i0 i1 => by rw [gl i i0 (by omega)]; have := sq (k + 1) i i0 (by omega); omega)) (qRo_m ok_X7_keepMemory (by decide) (Nat.le_refl _) (Nat.le_refl _)) (Nat.le_of_ble_eq_true rfl) (fun I31 L31 R31 hv31 => ?_)
        obtain ⟨rfl, rfl, y1, y2⟩ := hv31
        have e51 : I31 m 5 = T.ng := by rw [y1 _ _ (by omega)]; exact e5
        have me : ∀ j : Nat, j ≤ k + 1 → ∀ g, 0 ≤ g → g < T.ng → I31 (m + 31) (7 * (j : Int) + g) = seqM T C la j g := fun j hj g g0 g1' => by
          by_cases hq : j = k + 1
          · rw [hq, show 7 * ((k + 1 : Nat) : Int) + g = 7 * ((k : Int) + 1) + g by omega, y2 g g0 (by omega)]
            exact gl g g0 g1'
          · rw [y1 _ _ (by omega), g1 _ _ (by omega) (by omega)]
            exact f6 j (by omega) g g0 g1'
        refine wk_aload_n (i := 0) (q := 35) dX7_findRing_34 rfl rfl rfl ?_
        refine wk_aload_n (i := 0) (q := 36) dX7_findRing_35 rfl rfl rfl ?_
        refine wk_iload_n (i := 1) (q := 37) dX7_findRing_36 rfl rfl rfl ?_
        refine wk_cP1 (q := 40) dX7_findRing_37 rfl vl_X7_284 ⟨_, _, rfl⟩ hM.ob (ct_X7_sameAs (T := T) (C := C) (la := la) (e := k + 1) hM hok hLA e51 (by omega) me) (qRo_m ok_X7_sameAs (by decide) (Nat.le_refl _) (Nat.le_refl _)) (Nat.le_of_ble_eq_true rfl) (fun v37 hv37 => ?_)
        refine wk_putI (fi := 45) (q := 43) dX7_findRing_40 rfl fl_X7_281 fw_7_45 rfl rfl hM.ob ?_
        refine wk_goto (t := 13) dX7_findRing_43 rfl ?_
        skip
        have fr : frR I (up I31 m 45 v37) m := fun b i q0 q1 q2 => by rw [up_off (by omega), y1 _ _ (by omega), g1 _ _ (by omega) (by omega)]; exact f1 b i q0 q1 q2
        have r2 : mT (up I31 m 45 v37) m T := f2.cg (fun b i q => by rw [up_off (by omega), y1 _ _ (by omega), g1 _ _ (by omega) (by omega)])
        have r3 : mC (up I31 m 45 v37) m T C := g2.cg (fun b i q => by rw [up_off (by omega), y1 _ _ (by omega)])
        have r4 : up I31 m 45 v37 m 33 = -9 := by rw [up_off (by omega), y1 _ _ (by omega)]; exact g3.2.1
        have r5 : ∀ g, 0 ≤ g → g < T.ng → up I31 m 45 v37 (m + 20) g = seqM T C la (k + 1) g := fun g g0 g1' => by rw [up_na _ _ _ _ (by omega), y1 _ _ (by omega)]; exact gl g g0 g1'
        by_cases hf : firstK (memE T C la) (k + 1) (k + 1) = -1
        · rw [if_pos hf] at hv37
          exact ih _ fr r2 r3 r4 r5 (fun j hj g g0 g1' => by rw [up_na _ _ _ _ (by omega)]; exact me j hj g g0 g1') (ringE_go f7 hf) (by rw [up_eq]; exact hv37)
        · rw [if_neg hf] at hv37
          have hr := ringE_at f7 hf
          have hr2 := ringE_up (mem := memE T C la) (N := k + 1) (by omega) 200 (by omega)
          have hEk : Er T C la = k + 1 := by omega
          have htl : tailE T C la = v37 := by
            unfold tailE
            rw [hEk]
            exact hv37.symm
          have e45 : up I31 m 45 v37 m 45 = v37 := up_eq _ _ _ _
          have hrl : ringL T C la = (Er T C la : Int) - tailE T C la := rfl
          obtain ⟨I4, hI4⟩ : ∃ I4, I4 = up I31 m 45 v37 := ⟨_, rfl⟩
          rw [← hI4] at fr r2 r3 r4 r5 e45 ⊢
          exact findRing_end hM fr r2 r3 r4 (fun g g0 g1' => by rw [hEk]; exact r5 g g0 g1') (by rw [e45, htl]) (by omega) (by omega)
  refine Ct.of (lo := [(0, _)]) ok_X7_findRing (Nat.le_of_ble_eq_true rfl) rfl ?_
  refine wk_aload_n (i := 0) (q := 1) dX7_findRing_0 rfl rfl rfl ?_
  refine wk_iconst (q := 2) dX7_findRing_1 rfl ?_
  refine wk_cV1 (q := 5) dX7_findRing_2 rfl vl_X7_278 ⟨_, _, rfl⟩ hM.ob (ct_X7_keepMemory (ng := T.ng) (e := 0) hM hmT.1 (by omega) (by omega) (fun i i0 i1 => by rw [hla i i0 i1]; have := hLA i i0 i1; omega)) (qRo_m ok_X7_keepMemory (by decide) (Nat.le_refl _) (Nat.le_refl _)) (Nat.le_of_ble_eq_true rfl) (fun I2 L2 R2 hv2 => ?_)
  obtain ⟨rfl, rfl, y1, y2⟩ := hv2
  refine wk_iconst (q := 6) dX7_findRing_5 rfl ?_
  refine wk_istore_n (i := 1) (lo' := [(0, _), (1, _)]) (q := 7) dX7_findRing_6 rfl rfl (by decide) rfl ?_
  refine wk_aload_n (i := 0) (q := 8) dX7_findRing_7 rfl rfl rfl ?_
  refine wk_bipush (q := 10) dX7_findRing_8 rfl (by decide +kernel) ?_
  refine wk_putI (fi := 45) (q := 13) dX7_findRing_10 rfl fl_X7_281 fw_7_45 rfl rfl hM.ob ?_
  exact loop 0 (by omega) _ (fun b i q0 q1 q2 => by rw [up_off (by omega)]; exact y1 b i (by omega)) (hmT.cg (fun b i q => by rw [up_off (by omega)]; exact y1 b i (by omega))) (hmC.cg (fun b i q => by rw [up_off (by omega)]; exact y1 b i (by omega))) (by rw [up_off (by omega), y1 _ _ (by omega)]; exact h33) (fun g g0 g1 => by rw [up_na _ _ _ _ (by omega), y1 _ _ (by omega)]; exact hla g g0 g1) (fun j hj g g0 g1 => by rw [show j = 0 by omega, up_na _ _ _ _ (by omega)]; exact (y2 g g0 g1).trans (hla g g0 g1)) rfl (up_eq _ _ _ _)
end EVER8
