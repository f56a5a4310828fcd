/-! the reference's spite -/
def frS (I I' : qI) (m : Nat) : Prop := ∀ b i, ¬ (b = m ∧ (i = 28 ∨ i = 30 ∨ i = 33)) → ¬ (m + 19 ≤ b ∧ b ≤ m + 35) → I' b i = I b i
theorem frS.tr {I I1 I2 : qI} {m : Nat} (h1 : frS I I1 m) (h2 : frS I1 I2 m) : frS I I2 m := fun b i q0 q1 => (h2 b i q0 q1).trans (h1 b i q0 q1)
theorem frN.s {I I' : qI} {m : Nat} (h : frN I I' m) : frS I I' m := fun b i q0 q1 => h b i q0 (by omega)
theorem frS.o {I I' : qI} {m : Nat} (h : frS I I' m) : frO I I' m 36 := fun b i q => h b i (by omega) (by omega)
theorem MI.fs {I I' : qI} {m : Nat} {V : VV} (h : MI I m V) (hf : frS I I' m) : MI I' m V :=
  h.fld ⟨rfl, rfl, rfl, rfl⟩ ⟨rfl, rfl, rfl, rfl⟩ (fun b i q => hf b i (by omega) (by omega)) (by rw [hf _ _ (by omega) (by omega)]; exact h.2.2.1) (by rw [hf _ _ (by omega) (by omega)]; exact h.2.2.2.1)
theorem spS_ge {V : VV} {g : Int} {e : Nat} (h : spS V g e = -1) : ∀ m : Nat, e ≤ m → spS V g m = -1 ∨ (e : Int) ≤ spS V g m
  | 0, hm => by
    left
    rw [show (0 : Nat) = e by omega]
    exact h
  | m + 1, hm => by
    by_cases hq : e = m + 1
    · left
      rw [← hq]
      exact h
    · have ih := spS_ge h m (by omega)
      show (if spS V g m ≠ -1 then spS V g m else if smM V g m then (m : Int) else -1) = -1 ∨ (e : Int) ≤ (if spS V g m ≠ -1 then spS V g m else if smM V g m then (m : Int) else -1)
      split
      · omega
      · split
        · right
          omega
        · exact Or.inl rfl
/-- the answer, once it has come back -/
theorem spite_back {V : VV} {g : Int} {e : Nat} (h : spS V g e = -1) (he : e < 200) (hb : backN V g (e + 1) ≠ -9) : (if spS V g 200 = -1 then backN V g 200 else backN V g (spS V g 200 + 1).toNat) = backN V g (e + 1) := by
  rcases spS_ge h 200 (by omega) with q | q
  · rw [if_pos q]
    exact backN_up hb 200 (by omega)
  · rw [if_neg (by omega)]
    exact backN_up hb _ (by omega)
section SPITE3
variable {l : Launch} {E : qEv} {n : Nat} {sh : qSh} {I L : qI} {R : qR}
theorem ct_X7_swapIn {m a : Nat} {ng : Int} (hM : qMod E.2.2 n sh R m) (ha : isC E.2.2 n sh a 0 7) (hne : a ≠ m ∧ a ≠ m + 20) (hg : I m 5 = ng) (hg2 : 0 ≤ ng ∧ ng ≤ 7) (hb : ∀ i, 0 ≤ i → i < ng → in32 (I a i)) :
    Ct l E 0 mX7_swapIn [.ref m, .ref a] (n, sh, I, L, R) 0 0 (qV n sh (fun I' L' R' => L' = L ∧ R' = R ∧ (∀ b i, b ≠ m + 20 → I' b i = I b i) ∧ ∀ i, 0 ≤ i → i < ng → I' (m + 20) i = I a i)) := by
  have loop : ∀ k : Nat, k ≤ ng.toNat → ∀ I1 : qI, (∀ b i, b ≠ m + 20 → I1 b i = I b i) → (∀ i : Int, 0 ≤ i → i < k → I1 (m + 20) i = I a i) → Wk l E (qmo E 0 n 0 0 (qV n sh (fun I' L' R' => L' = L ∧ R' = R ∧ (∀ b i, b ≠ m + 20 → I' b i = I b i) ∧ ∀ i, 0 ≤ i → i < ng → I' (m + 20) i = I a i))) mX7_swapIn 0 0 2
      [(0, .ref m), (1, .ref a), (2, .int (zI (k : Int)))] [] (n, sh, I1, L, R) := by
    refine up_ind ng.toNat ?_ ?_
    · rintro I1 f1 f2
      have e5 : I1 m 5 = ng := by rw [f1 _ _ (by omega)]; exact hg
      refine wk_iload_n (i := 2) (q := 3) dX7_swapIn_2 rfl rfl rfl ?_
      refine wk_aload_n (i := 0) (q := 4) dX7_swapIn_3 rfl rfl rfl ?_
      refine wk_getI (fi := 5) (q := 7) dX7_swapIn_4 rfl fl_X7_125 rfl rfl hM.ob ?_
      refine wk_icmp_ge (t := 25) (q := 10) dX7_swapIn_7 rfl rfl (by omega) (by omega) (fun hc7 => ?_) (fun hc7 => ?_)
      · refine wk_ret dX7_swapIn_25 rfl ⟨Nat.le_refl _, Nat.le_refl _⟩ rfl ?_
        exact ⟨_, _, _, rfl, rfl, rfl, rfl, f1, fun i i0 i1 => f2 i i0 (by omega)⟩
      · omega
    · rintro k hk ih I1 f1 f2
      have e5 : I1 m 5 = ng := by rw [f1 _ _ (by omega)]; exact hg
      have ea : I1 a k = I a k := f1 _ _ hne.2
      have b1 := hb k (by omega) (by omega)
      refine wk_iload_n (i := 2) (q := 3) dX7_swapIn_2 rfl rfl rfl ?_
      refine wk_aload_n (i := 0) (q := 4) dX7_swapIn_3 rfl rfl rfl ?_
      refine wk_getI (fi := 5) (q := 7) dX7_swapIn_4 rfl fl_X7_125 rfl rfl hM.ob ?_
      refine wk_icmp_ge (t := 25) (q := 10) dX7_swapIn_7 rfl rfl (by omega) (by omega) (fun hc7 => ?_) (fun hc7 => ?_)
      · omega
      · refine wk_aload_n (i := 0) (q := 11) dX7_swapIn_10 rfl rfl rfl ?_
        refine wk_getR (fi := 31) (q := 14) dX7_swapIn_11 rfl fl_X7_67 rfl rfl hM.ob hM.r31 ?_
        refine wk_iload_n (i := 2) (q := 15) dX7_swapIn_14 rfl rfl rfl ?_
        refine wk_aload_n (i := 1) (q := 16) dX7_swapIn_15 rfl rfl rfl ?_
        refine wk_iload_n (i := 2) (q := 17) dX7_swapIn_16 rfl rfl rfl ?_
        refine wk_iald (q := 18) dX7_swapIn_17 rfl ha (by omega) ?_
        rw [ea]
        refine wk_iast (q := 19) dX7_swapIn_18 rfl hM.s31 (by omega) ?_
        refine wk_iinc (lo' := [(0, _), (1, _), (2, _)]) (q := 22) dX7_swapIn_19 rfl rfl (by decide) rfl ?_
        refine wk_goto (t := 2) dX7_swapIn_22 rfl ?_
        refine ih _ (fun b i q => by rw [up_na _ _ _ _ q]; exact f1 b i q) (fun i i0 i1 => ?_)
        by_cases hq : i = k
        · rw [hq, up_eq]
        · rw [up_ni _ _ hq]
          exact f2 i i0 (by omega)
  refine Ct.of (lo := [(0, _), (1, _)]) ok_X7_swapIn (Nat.le_of_ble_eq_true rfl) rfl ?_
  have l0 := loop 0 (Nat.zero_le _) I (fun _ _ _ => rfl) (fun i i0 i1 => by omega)
  refine wk_iconst (q := 1) dX7_swapIn_0 rfl ?_
  refine wk_istore_n (i := 2) (lo' := [(0, _), (1, _), (2, _)]) (q := 2) dX7_swapIn_1 rfl rfl (by decide) rfl ?_
  exact l0
theorem ct_X7_swapOut {m a : Nat} {ng : Int} (hM : qMod E.2.2 n sh R m) (ha : isC E.2.2 n sh a 0 7) (hne : a ≠ m ∧ a ≠ m + 20) (hg : I m 5 = ng) (hg2 : 0 ≤ ng ∧ ng ≤ 7) (hb : ∀ i, 0 ≤ i → i < ng → in32 (I (m + 20) i)) :
    Ct l E 0 mX7_swapOut [.ref m, .ref a] (n, sh, I, L, R) 0 0 (qV n sh (fun I' L' R' => L' = L ∧ R' = R ∧ (∀ b i, b ≠ a → I' b i = I b i) ∧ ∀ i, 0 ≤ i → i < ng → I' a i = I (m + 20) i)) := by
  have loop : ∀ k : Nat, k ≤ ng.toNat → ∀ I1 : qI, (∀ b i, b ≠ a → I1 b i = I b i) → (∀ i : Int, 0 ≤ i → i < k → I1 a i = I (m + 20) i) → Wk l E (qmo E 0 n 0 0 (qV n sh (fun I' L' R' => L' = L ∧ R' = R ∧ (∀ b i, b ≠ a → I' b i = I b i) ∧ ∀ i, 0 ≤ i → i < ng → I' a i = I (m + 20) i))) mX7_swapOut 0 0 2
      [(0, .ref m), (1, .ref a), (2, .int (zI (k : Int)))] [] (n, sh, I1, L, R) := by
    refine up_ind ng.toNat ?_ ?_
    · rintro I1 f1 f2
      have e5 : I1 m 5 = ng := by rw [f1 _ _ (by omega)]; exact hg
      refine wk_iload_n (i := 2) (q := 3) dX7_swapOut_2 rfl rfl rfl ?_
      refine wk_aload_n (i := 0) (q := 4) dX7_swapOut_3 rfl rfl rfl ?_
      refine wk_getI (fi := 5) (q := 7) dX7_swapOut_4 rfl fl_X7_125 rfl rfl hM.ob ?_
      refine wk_icmp_ge (t := 25) (q := 10) dX7_swapOut_7 rfl rfl (by omega) (by omega) (fun hc7 => ?_) (fun hc7 => ?_)
      · refine wk_ret dX7_swapOut_25 rfl ⟨Nat.le_refl _, Nat.le_refl _⟩ rfl ?_
        exact ⟨_, _, _, rfl, rfl, rfl, rfl, f1, fun i i0 i1 => f2 i i0 (by omega)⟩
      · omega
    · rintro k hk ih I1 f1 f2
      have e5 : I1 m 5 = ng := by rw [f1 _ _ (by omega)]; exact hg
      have ea : I1 (m + 20) k = I (m + 20) k := f1 _ _ (by omega)
      have b1 := hb k (by omega) (by omega)
      refine wk_iload_n (i := 2) (q := 3) dX7_swapOut_2 rfl rfl rfl ?_
      refine wk_aload_n (i := 0) (q := 4) dX7_swapOut_3 rfl rfl rfl ?_
      refine wk_getI (fi := 5) (q := 7) dX7_swapOut_4 rfl fl_X7_125 rfl rfl hM.ob ?_
      refine wk_icmp_ge (t := 25) (q := 10) dX7_swapOut_7 rfl rfl (by omega) (by omega) (fun hc7 => ?_) (fun hc7 => ?_)
      · omega
      · refine wk_aload_n (i := 1) (q := 11) dX7_swapOut_10 rfl rfl rfl ?_
        refine wk_iload_n (i := 2) (q := 12) dX7_swapOut_11 rfl rfl rfl ?_
        refine wk_aload_n (i := 0) (q := 13) dX7_swapOut_12 rfl rfl rfl ?_
        refine wk_getR (fi := 31) (q := 16) dX7_swapOut_13 rfl fl_X7_67 rfl rfl hM.ob hM.r31 ?_
        refine wk_iload_n (i := 2) (q := 17) dX7_swapOut_16 rfl rfl rfl ?_
        refine wk_iald (q := 18) dX7_swapOut_17 rfl hM.s31 (by omega) ?_
        rw [ea]
        refine wk_iast (q := 19) dX7_swapOut_18 rfl ha (by omega) ?_
        refine wk_iinc (lo' := [(0, _), (1, _), (2, _)]) (q := 22) dX7_swapOut_19 rfl rfl (by decide) rfl ?_
        refine wk_goto (t := 2) dX7_swapOut_22 rfl ?_
        refine ih _ (fun b i q => by rw [up_na _ _ _ _ q]; exact f1 b i q) (fun i i0 i1 => ?_)
        by_cases hq : i = k
        · rw [hq, up_eq]
        · rw [up_ni _ _ hq]
          exact f2 i i0 (by omega)
  refine Ct.of (lo := [(0, _), (1, _)]) ok_X7_swapOut (Nat.le_of_ble_eq_true rfl) rfl ?_
  have l0 := loop 0 (Nat.zero_le _) I (fun _ _ _ => rfl) (fun i i0 i1 => by omega)
  refine wk_iconst (q := 1) dX7_swapOut_0 rfl ?_
  refine wk_istore_n (i := 2) (lo' := [(0, _), (1, _), (2, _)]) (q := 2) dX7_swapOut_1 rfl rfl (by decide) rfl ?_
  exact l0
theorem ct_X7_areSame {m : Nat} {ng : Int} {la lb : Int → Int} (hM : qMod E.2.2 n sh R m) (hg : I m 5 = ng) (hg2 : 0 ≤ ng ∧ ng ≤ 7) (ha : ∀ g : Int, 0 ≤ g → g < ng → I (m + 32) g = la g ∧ -9 ≤ la g ∧ la g < 6 ∧ (la g < 0 → la g ≤ -8)) (hb : ∀ g : Int, 0 ≤ g → g < ng → I (m + 33) g = lb g ∧ -9 ≤ lb g ∧ lb g < 6 ∧ (lb g < 0 → lb g ≤ -8)) :
    Ct l E 0 mX7_areSame [.ref m] (n, sh, I, L, R) 0 0 (qP n sh I L R (qBo (memK la ng.toNat = memK lb ng.toNat))) := by
  have loop : ∀ k : Nat, k ≤ ng.toNat → (∀ g : Int, 0 ≤ g → g < k → la g = lb g) → Wk l E (qmo E 0 n 0 0 (qP n sh I L R (qBo (memK la ng.toNat = memK lb ng.toNat)))) mX7_areSame 0 0 2
      [(0, .ref m), (1, .int (zI (k : Int)))] [] (n, sh, I, L, R) := by
    refine up_ind ng.toNat ?_ ?_
    · intro hs
      refine wk_iload_n (i := 1) (q := 3) dX7_areSame_2 rfl rfl rfl ?_
      refine wk_aload_n (i := 0) (q := 4) dX7_areSame_3 rfl rfl rfl ?_
      refine wk_getI (fi := 5) (q := 7) dX7_areSame_4 rfl fl_X7_125 rfl rfl hM.ob ?_
      refine wk_icmp_ge (t := 33) (q := 10) dX7_areSame_7 rfl rfl (by omega) (by omega) (fun hc7 => ?_) (fun hc7 => ?_)
      · refine wk_iconst (q := 34) dX7_areSame_33 rfl ?_
        refine wk_zret dX7_areSame_34 rfl (by omega) ⟨Nat.le_refl _, Nat.le_refl _⟩ rfl ?_
        refine ⟨_, _, _, _, rfl, rfl, rfl, rfl, rfl, ?_⟩
        exact Or.inl ⟨rfl, memK_congr _ hs⟩
      · omega
    · intro k hk ih hs
      have a1 := ha k (by omega) (by omega)
      have b1 := hb k (by omega) (by omega)
      refine wk_iload_n (i := 1) (q := 3) dX7_areSame_2 rfl rfl rfl ?_
      refine wk_aload_n (i := 0) (q := 4) dX7_areSame_3 rfl rfl rfl ?_
      refine wk_getI (fi := 5) (q := 7) dX7_areSame_4 rfl fl_X7_125 rfl rfl hM.ob ?_
      refine wk_icmp_ge (t := 33) (q := 10) dX7_areSame_7 rfl rfl (by omega) (by omega) (fun hc7 => ?_) (fun hc7 => ?_)
      · omega
      · refine wk_aload_n (i := 0) (q := 11) dX7_areSame_10 rfl rfl rfl ?_
        refine wk_getR (fi := 48) (q := 14) dX7_areSame_11 rfl fl_X7_106 rfl rfl hM.ob hM.r48 ?_
        refine wk_iload_n (i := 1) (q := 15) dX7_areSame_14 rfl rfl rfl ?_
        refine wk_iald (q := 16) dX7_areSame_15 rfl hM.s48 (by omega) ?_
        refine wk_aload_n (i := 0) (q := 17) dX7_areSame_16 rfl rfl rfl ?_
        refine wk_getR (fi := 47) (q := 20) dX7_areSame_17 rfl fl_X7_103 rfl rfl hM.ob hM.r47 ?_
        refine wk_iload_n (i := 1) (q := 21) dX7_areSame_20 rfl rfl rfl ?_
        refine wk_iald (q := 22) dX7_areSame_21 rfl hM.s47 (by omega) ?_
        rw [a1.1, b1.1]
        refine wk_icmp_eq (t := 27) (q := 25) dX7_areSame_22 rfl rfl (by omega) (by omega) (fun hc22 => ?_) (fun hc22 => ?_)
        · refine wk_iinc (lo' := [(0, _), (1, _)]) (q := 30) dX7_areSame_27 rfl rfl (by decide) rfl ?_
          refine wk_goto (t := 2) dX7_areSame_30 rfl ?_
          refine ih (fun g g0 g1 => ?_)
          by_cases hq : g = k
          · rw [hq]
            exact hc22.symm
          · exact hs g g0 (by omega)
        · refine wk_iconst (q := 26) dX7_areSame_25 rfl ?_
          refine wk_zret dX7_areSame_26 rfl (by omega) ⟨Nat.le_refl _, Nat.le_refl _⟩ rfl ?_
          refine ⟨_, _, _, _, rfl, rfl, rfl, rfl, rfl, ?_⟩
          refine Or.inr ⟨rfl, fun q => hc22 ?_⟩
          refine Eq.symm ?_
          exact memK_inj (ng := ng.toNat) (fun g g0 g1 => (ha g g0 (by omega)).2) (fun g g0 g1 => (hb g g0 (by omega)).2) _ (Nat.le_refl _) q k (by omega) (by omega)
  refine Ct.of (lo := [(0, _)]) ok_X7_areSame (Nat.le_of_ble_eq_true rfl) rfl ?_
  have l0 := loop 0 (Nat.zero_le _) (fun g g0 g1 => by omega)
  refine wk_iconst (q := 1) dX7_areSame_0 rfl ?_
  refine wk_istore_n (i := 1) (lo' := [(0, _), (1, _)]) (q := 2) dX7_areSame_1 rfl rfl (by decide) rfl ?_
  exact l0
end SPITE3
