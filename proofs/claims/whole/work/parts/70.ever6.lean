/-! the reference's rings: keepMemory, areAlike, sameAs -/
section EVER6
variable {l : Launch} {E : qEv} {n : Nat} {sh : qSh} {I L : qI} {R : qR}
theorem ct_X7_keepMemory {m : Nat} {ng e : Int} (hM : qMod E.2.2 n sh R m) (hg : I m 5 = ng) (hg2 : 0 ≤ ng ∧ ng ≤ 7) (he : 0 ≤ e ∧ e ≤ 200) (hb : ∀ i, 0 ≤ i → i < ng → in32 (I (m + 20) i)) :
    Ct l E 0 mX7_keepMemory [.ref m, .int (zI e)] (n, sh, I, L, R) 0 0 (qV n sh (fun I' L' R' => L' = L ∧ R' = R ∧ (∀ b i, ¬ (b = m + 31 ∧ 7 * e ≤ i ∧ i < 7 * e + 7) → I' b i = I b i) ∧ ∀ i, 0 ≤ i → i < ng → I' (m + 31) (7 * e + i) = I (m + 20) i)) := by
  have loop : ∀ k : Nat, k ≤ ng.toNat → ∀ I1 : qI, (∀ b i, ¬ (b = m + 31 ∧ 7 * e ≤ i ∧ i < 7 * e + 7) → I1 b i = I b i) → (∀ i : Int, 0 ≤ i → i < k → I1 (m + 31) (7 * e + i) = I (m + 20) i) → Wk l E (qmo E 0 n 0 0 (qV n sh (fun I' L' R' => L' = L ∧ R' = R ∧ (∀ b i, ¬ (b = m + 31 ∧ 7 * e ≤ i ∧ i < 7 * e + 7) → I' b i = I b i) ∧ ∀ i, 0 ≤ i → i < ng → I' (m + 31) (7 * e + i) = I (m + 20) i))) mX7_keepMemory 0 0 2
      [(0, .ref m), (1, .int (zI e)), (2, .int (zI (k : Int)))] [] (n, sh, I1, L, R) := by
    refine up_ind ng.toNat ?_ ?_
    · rintro I1 f1 f2
      have e5 : I1 m 5 = ng := by rw [f1 _ _ (by omega)]; exact hg
      refine wk_iload_n (i := 2) (q := 3) dX7_keepMemory_2 rfl rfl rfl ?_
      refine wk_aload_n (i := 0) (q := 4) dX7_keepMemory_3 rfl rfl rfl ?_
      refine wk_getI (fi := 5) (q := 7) dX7_keepMemory_4 rfl fl_X7_125 rfl rfl hM.ob ?_
      refine wk_icmp_ge (t := 33) (q := 10) dX7_keepMemory_7 rfl rfl (by omega) (by omega) (fun hc7 => ?_) (fun hc7 => ?_)
      · refine wk_ret dX7_keepMemory_33 rfl ⟨Nat.le_refl _, Nat.le_refl _⟩ rfl ?_
        exact ⟨_, _, _, rfl, rfl, rfl, rfl, f1, fun i i0 i1 => f2 i i0 (by omega)⟩
      · omega
    · rintro k hk ih I1 f1 f2
      have e5 : I1 m 5 = ng := by rw [f1 _ _ (by omega)]; exact hg
      have ea : I1 (m + 20) k = I (m + 20) k := f1 _ _ (by omega)
      have b1 := hb k (by omega) (by omega)
      refine wk_iload_n (i := 2) (q := 3) dX7_keepMemory_2 rfl rfl rfl ?_
      refine wk_aload_n (i := 0) (q := 4) dX7_keepMemory_3 rfl rfl rfl ?_
      refine wk_getI (fi := 5) (q := 7) dX7_keepMemory_4 rfl fl_X7_125 rfl rfl hM.ob ?_
      refine wk_icmp_ge (t := 33) (q := 10) dX7_keepMemory_7 rfl rfl (by omega) (by omega) (fun hc7 => ?_) (fun hc7 => ?_)
      · omega
      · refine wk_aload_n (i := 0) (q := 11) dX7_keepMemory_10 rfl rfl rfl ?_
        refine wk_getR (fi := 44) (q := 14) dX7_keepMemory_11 rfl fl_X7_100 rfl rfl hM.ob hM.r44 ?_
        refine wk_bipush (q := 16) dX7_keepMemory_14 rfl (by decide +kernel) ?_
        refine wk_iload_n (i := 1) (q := 17) dX7_keepMemory_16 rfl rfl rfl ?_
        refine wk_imul (q := 18) dX7_keepMemory_17 rfl ?_
        refine wk_iload_n (i := 2) (q := 19) dX7_keepMemory_18 rfl rfl rfl ?_
        refine wk_iadd (q := 20) dX7_keepMemory_19 rfl ?_
        refine wk_aload_n (i := 0) (q := 21) dX7_keepMemory_20 rfl rfl rfl ?_
        refine wk_getR (fi := 31) (q := 24) dX7_keepMemory_21 rfl fl_X7_67 rfl rfl hM.ob hM.r31 ?_
        refine wk_iload_n (i := 2) (q := 25) dX7_keepMemory_24 rfl rfl rfl ?_
        refine wk_iald (q := 26) dX7_keepMemory_25 rfl hM.s31 (by omega) ?_
        rw [ea]
        refine wk_iast (q := 27) dX7_keepMemory_26 rfl hM.s44 (by omega) ?_
        refine wk_iinc (lo' := [(0, _), (1, _), (2, _)]) (q := 30) dX7_keepMemory_27 rfl rfl (by decide) rfl ?_
        refine wk_goto (t := 2) dX7_keepMemory_30 rfl ?_
        refine ih _ (fun b i q => by rw [up_off (by omega)]; exact f1 b i q) (fun i i0 i1 => ?_)
        by_cases hq : i = k
        · rw [hq, up_eq]
        · rw [up_ni _ _ (by omega)]
          exact f2 i i0 (by omega)
  refine Ct.of (lo := [(0, _), (1, _)]) ok_X7_keepMemory (Nat.le_of_ble_eq_true rfl) rfl ?_
  have l0 := loop 0 (Nat.zero_le _) I (fun _ _ _ => rfl) (fun i i0 i1 => by omega)
  refine wk_iconst (q := 1) dX7_keepMemory_0 rfl ?_
  refine wk_istore_n (i := 2) (lo' := [(0, _), (1, _), (2, _)]) (q := 2) dX7_keepMemory_1 rfl rfl (by decide) rfl ?_
  exact l0
theorem ct_X7_areAlike {m : Nat} {ng a c : Int} {la lb : Int → Int} (hM : qMod E.2.2 n sh R m) (hg : I m 5 = ng) (hg2 : 0 ≤ ng ∧ ng ≤ 7) (ha0 : 0 ≤ a ∧ a ≤ 200) (hc0 : 0 ≤ c ∧ c ≤ 200) (ha : ∀ g : Int, 0 ≤ g → g < ng → I (m + 31) (7 * a + g) = la g ∧ -9 ≤ la g ∧ la g < 6 ∧ (la g < 0 → la g ≤ -8)) (hb : ∀ g : Int, 0 ≤ g → g < ng → I (m + 31) (7 * c + g) = lb g ∧ -9 ≤ lb g ∧ lb g < 6 ∧ (lb g < 0 → lb g ≤ -8)) :
    Ct l E 0 mX7_areAlike [.ref m, .int (zI a), .int (zI c)] (n, sh, I, L, R) 0 0 (qP n sh I L R (qBo (memK la ng.toNat = memK lb ng.toNat))) := by
  have loop : ∀ k : Nat, k ≤ ng.toNat → (∀ g : Int, 0 ≤ g → g < k → la g = lb g) → Wk l E (qmo E 0 n 0 0 (qP n sh I L R (qBo (memK la ng.toNat = memK lb ng.toNat)))) mX7_areAlike 0 0 2
      [(0, .ref m), (1, .int (zI a)), (2, .int (zI c)), (3, .int (zI (k : Int)))] [] (n, sh, I, L, R) := by
    refine up_ind ng.toNat ?_ ?_
    · intro hs
      refine wk_iload_n (i := 3) (q := 3) dX7_areAlike_2 rfl rfl rfl ?_
      refine wk_aload_n (i := 0) (q := 4) dX7_areAlike_3 rfl rfl rfl ?_
      refine wk_getI (fi := 5) (q := 7) dX7_areAlike_4 rfl fl_X7_125 rfl rfl hM.ob ?_
      refine wk_icmp_ge (t := 43) (q := 10) dX7_areAlike_7 rfl rfl (by omega) (by omega) (fun hc7 => ?_) (fun hc7 => ?_)
      · refine wk_iconst (q := 44) dX7_areAlike_43 rfl ?_
        refine wk_zret dX7_areAlike_44 rfl (by omega) ⟨Nat.le_refl _, Nat.le_refl _⟩ rfl ?_
        refine ⟨_, _, _, _, rfl, rfl, rfl, rfl, rfl, ?_⟩
        exact Or.inl ⟨rfl, memK_congr _ hs⟩
      · omega
    · intro k hk ih hs
      have a1 := ha k (by omega) (by omega)
      have b1 := hb k (by omega) (by omega)
      refine wk_iload_n (i := 3) (q := 3) dX7_areAlike_2 rfl rfl rfl ?_
      refine wk_aload_n (i := 0) (q := 4) dX7_areAlike_3 rfl rfl rfl ?_
      refine wk_getI (fi := 5) (q := 7) dX7_areAlike_4 rfl fl_X7_125 rfl rfl hM.ob ?_
      refine wk_icmp_ge (t := 43) (q := 10) dX7_areAlike_7 rfl rfl (by omega) (by omega) (fun hc7 => ?_) (fun hc7 => ?_)
      · omega
      · refine wk_aload_n (i := 0) (q := 11) dX7_areAlike_10 rfl rfl rfl ?_
        refine wk_getR (fi := 44) (q := 14) dX7_areAlike_11 rfl fl_X7_100 rfl rfl hM.ob hM.r44 ?_
        refine wk_bipush (q := 16) dX7_areAlike_14 rfl (by decide +kernel) ?_
        refine wk_iload_n (i := 1) (q := 17) dX7_areAlike_16 rfl rfl rfl ?_
        refine wk_imul (q := 18) dX7_areAlike_17 rfl ?_
        refine wk_iload_n (i := 3) (q := 19) dX7_areAlike_18 rfl rfl rfl ?_
        refine wk_iadd (q := 20) dX7_areAlike_19 rfl ?_
        refine wk_iald (q := 21) dX7_areAlike_20 rfl hM.s44 (by omega) ?_
        refine wk_aload_n (i := 0) (q := 22) dX7_areAlike_21 rfl rfl rfl ?_
        refine wk_getR (fi := 44) (q := 25) dX7_areAlike_22 rfl fl_X7_100 rfl rfl hM.ob hM.r44 ?_
        refine wk_bipush (q := 27) dX7_areAlike_25 rfl (by decide +kernel) ?_
        refine wk_iload_n (i := 2) (q := 28) dX7_areAlike_27 rfl rfl rfl ?_
        refine wk_imul (q := 29) dX7_areAlike_28 rfl ?_
        refine wk_iload_n (i := 3) (q := 30) dX7_areAlike_29 rfl rfl rfl ?_
        refine wk_iadd (q := 31) dX7_areAlike_30 rfl ?_
        refine wk_iald (q := 32) dX7_areAlike_31 rfl hM.s44 (by omega) ?_
        rw [a1.1, b1.1]
        refine wk_icmp_eq (t := 37) (q := 35) dX7_areAlike_32 rfl rfl (by omega) (by omega) (fun hc32 => ?_) (fun hc32 => ?_)
        · refine wk_iinc (lo' := [(0, _), (1, _), (2, _), (3, _)]) (q := 40) dX7_areAlike_37 rfl rfl (by decide) rfl ?_
          refine wk_goto (t := 2) dX7_areAlike_40 rfl ?_
          refine ih (fun g g0 g1 => ?_)
          by_cases hq : g = k
          · rw [hq]
            exact hc32
          · exact hs g g0 (by omega)
        · refine wk_iconst (q := 36) dX7_areAlike_35 rfl ?_
          refine wk_zret dX7_areAlike_36 rfl (by omega) ⟨Nat.le_refl _, Nat.le_refl _⟩ rfl ?_
          refine ⟨_, _, _, _, rfl, rfl, rfl, rfl, rfl, ?_⟩
          refine Or.inr ⟨rfl, fun q => hc32 ?_⟩
          exact memK_inj (ng := ng.toNat) (fun g g0 g1 => (ha g g0 (by omega)).2) (fun g g0 g1 => (hb g g0 (by omega)).2) _ (Nat.le_refl _) q k (by omega) (by omega)
  refine Ct.of (lo := [(0, _), (1, _), (2, _)]) ok_X7_areAlike (Nat.le_of_ble_eq_true rfl) rfl ?_
  have l0 := loop 0 (Nat.zero_le _) (fun g g0 g1 => by omega)
  refine wk_iconst (q := 1) dX7_areAlike_0 rfl ?_
  refine wk_istore_n (i := 3) (lo' := [(0, _), (1, _), (2, _), (3, _)]) (q := 2) dX7_areAlike_1 rfl rfl (by decide) rfl ?_
  exact l0
end EVER6
