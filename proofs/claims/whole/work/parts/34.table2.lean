/-! the class Table: what it tells -/
theorem zI_nI {a : Int} (h : 0 ≤ a) : zI a = nI a.toNat := by
  have e : (a.toNat : Int) = a := by omega
  show Int32.ofInt a = Int32.ofNat a.toNat
  rw [← Int32.ofInt_eq_ofNat, e]
theorem nI_or (x y : Nat) : nI x ||| nI y = nI (x ||| y) := by
  apply Int32.toBitVec.inj
  show BitVec.ofNat 32 x ||| BitVec.ofNat 32 y = BitVec.ofNat 32 (x ||| y)
  apply BitVec.eq_of_toNat_eq
  simp only [BitVec.toNat_or, BitVec.toNat_ofNat]
  rw [Nat.or_mod_two_pow]
theorem zShl_3 {a : Int} (h0 : 0 ≤ a) (h1 : a < 268435456) : zShl a 3 = 8 * a := by
  unfold zShl
  rw [zI_nI h0, pk_shlN (n := a.toNat) (zI 3 &&& 31) 3 (by decide +kernel) (by omega)]
  have e : nI (a.toNat * 2 ^ 3) = zI (8 * a) := by
    rw [zI_nI (by omega)]
    exact congrArg nI (by omega)
  rw [e, zI_toInt ⟨by omega, by omega⟩]
theorem zOr_8 {a b : Int} (h0 : 0 ≤ a) (h1 : a < 268435456) (hb0 : 0 ≤ b) (hb1 : b < 8) : zOr (8 * a) b = 8 * a + b := by
  unfold zOr
  rw [zI_nI (by omega), zI_nI hb0, nI_or]
  have e1 : (8 * a).toNat = 2 ^ 3 * a.toNat := by omega
  rw [e1, ← Nat.two_pow_add_eq_or_of_lt (by omega : b.toNat < 2 ^ 3)]
  have e : nI (2 ^ 3 * a.toNat + b.toNat) = zI (8 * a + b) := by
    rw [zI_nI (by omega)]
    exact congrArg nI (by omega)
  rw [e, zI_toInt ⟨by omega, by omega⟩]
/-- what one remembers, in three bits -/
def mem1 (x : Int) : Int := if x = -8 then 7 else if x < 0 then 6 else x
def memK (la : Int → Int) : Nat → Int
  | 0 => 0
  | k + 1 => 8 * memK la k + mem1 (la k)
theorem mem1_in {x : Int} (h : -9 ≤ x ∧ x < 6) : 0 ≤ mem1 x ∧ mem1 x < 8 := by
  unfold mem1
  split
  · omega
  · split <;> omega
theorem mem1_inj {x y : Int} (hx : -9 ≤ x ∧ x < 6 ∧ (x < 0 → x ≤ -8)) (hy : -9 ≤ y ∧ y < 6 ∧ (y < 0 → y ≤ -8)) (h : mem1 x = mem1 y) : x = y := by
  unfold mem1 at h
  split at h <;> split at h <;> (try split at h) <;> (try split at h) <;> omega
theorem memK_in {la : Int → Int} {ng : Nat} (h : ∀ g : Int, 0 ≤ g → g < ng → -9 ≤ la g ∧ la g < 6) : ∀ k : Nat, k ≤ ng → 0 ≤ memK la k ∧ memK la k < 8 ^ k
  | 0, _ => by
    show (0 : Int) ≤ 0 ∧ (0 : Int) < 8 ^ 0
    omega
  | k + 1, hk => by
    have ih := memK_in h k (by omega)
    have h1 := mem1_in (h k (by omega) (by omega))
    show 0 ≤ 8 * memK la k + mem1 (la k) ∧ 8 * memK la k + mem1 (la k) < 8 ^ (k + 1)
    rw [Int.pow_succ]
    omega
theorem memK_inj {la lb : Int → Int} {ng : Nat} (ha : ∀ g : Int, 0 ≤ g → g < ng → -9 ≤ la g ∧ la g < 6 ∧ (la g < 0 → la g ≤ -8)) (hb : ∀ g : Int, 0 ≤ g → g < ng → -9 ≤ lb g ∧ lb g < 6 ∧ (lb g < 0 → lb g ≤ -8)) : ∀ k : Nat, k ≤ ng → memK la k = memK lb k → ∀ g : Int, 0 ≤ g → g < k → la g = lb g
  | 0, _, _, g, h0, h1 => by omega
  | k + 1, hk, h, g, h0, h1 => by
    have a1 := ha k (by omega) (by omega)
    have b1 := hb k (by omega) (by omega)
    have h2 := mem1_in (x := la k) ⟨a1.1, a1.2.1⟩
    have h3 := mem1_in (x := lb k) ⟨b1.1, b1.2.1⟩
    have h4 : 8 * memK la k + mem1 (la k) = 8 * memK lb k + mem1 (lb k) := h
    by_cases hg : g = k
    · rw [hg]
      exact mem1_inj a1 b1 (by omega)
    · exact memK_inj ha hb k (by omega) (by omega) g h0 (by omega)
theorem memK_congr {la lb : Int → Int} : ∀ k : Nat, (∀ g : Int, 0 ≤ g → g < k → la g = lb g) → memK la k = memK lb k
  | 0, _ => rfl
  | k + 1, h => by
    show 8 * memK la k + mem1 (la k) = 8 * memK lb k + mem1 (lb k)
    rw [memK_congr k (fun g h0 h1 => h g h0 (by omega)), h k (by omega) (by omega)]
section TABLE2
variable {l : Launch} {E : qEv} {n : Nat} {sh : qSh} {I L : qI} {R : qR}
theorem ct_X4_sum {t o a : Nat} {ng : Int} (hT : qTab E.2.2 n sh R t o) (ha : isC E.2.2 n sh a 0 7) (hg : I o 7 = ng) (hg2 : 0 ≤ ng ∧ ng ≤ 7) :
    Ct l E 0 mX4_sum [.ref t, .ref a] (n, sh, I, L, R) 0 0 (qP n sh I L R (fun v => v = sumI (fun g => I a g) ng.toNat)) := by
  have loop : ∀ k : Nat, k ≤ ng.toNat → Wk l E (qmo E 0 n 0 0 (qP n sh I L R (fun v => v = sumI (fun g => I a g) ng.toNat))) mX4_sum 0 0 4
      [(0, .ref t), (1, .ref a), (2, .int (zI (sumI (fun g => I a g) k))), (3, .int (zI (k : Int)))] [] (n, sh, I, L, R) := by
    refine up_ind ng.toNat ?_ ?_
    · skip
      refine wk_iload_n (i := 3) (q := 5) dX4_sum_4 rfl rfl rfl ?_
      refine wk_aload_n (i := 0) (q := 6) dX4_sum_5 rfl rfl rfl ?_
      refine wk_getR (fi := 0) (q := 9) dX4_sum_6 rfl fl_X4_12 rfl rfl hT.1.ob hT.2.1 ?_
      refine wk_getI (fi := 7) (q := 12) dX4_sum_9 rfl fl_X4_49 rfl rfl hT.2.2.ob ?_
      refine wk_icmp_ge (t := 27) (q := 15) dX4_sum_12 rfl rfl (by omega) (by omega) (fun hc12 => ?_) (fun hc12 => ?_)
      · refine wk_iload_n (i := 2) (q := 28) dX4_sum_27 rfl rfl rfl ?_
        refine wk_iret dX4_sum_28 rfl ⟨Nat.le_refl _, Nat.le_refl _⟩ rfl ?_
        refine ⟨_, _, _, _, rfl, rfl, rfl, rfl, rfl, ?_⟩
        rfl
      · omega
    · rintro k hk ih
      refine wk_iload_n (i := 3) (q := 5) dX4_sum_4 rfl rfl rfl ?_
      refine wk_aload_n (i := 0) (q := 6) dX4_sum_5 rfl rfl rfl ?_
      refine wk_getR (fi := 0) (q := 9) dX4_sum_6 rfl fl_X4_12 rfl rfl hT.1.ob hT.2.1 ?_
      refine wk_getI (fi := 7) (q := 12) dX4_sum_9 rfl fl_X4_49 rfl rfl hT.2.2.ob ?_
      refine wk_icmp_ge (t := 27) (q := 15) dX4_sum_12 rfl rfl (by omega) (by omega) (fun hc12 => ?_) (fun hc12 => ?_)
      · omega
      · refine wk_iload_n (i := 2) (q := 16) dX4_sum_15 rfl rfl rfl ?_
        refine wk_aload_n (i := 1) (q := 17) dX4_sum_16 rfl rfl rfl ?_
        refine wk_iload_n (i := 3) (q := 18) dX4_sum_17 rfl rfl rfl ?_
        refine wk_iald (q := 19) dX4_sum_18 rfl ha (by omega) ?_
        refine wk_iadd (q := 20) dX4_sum_19 rfl ?_
        refine wk_istore_n (i := 2) (lo' := [(0, _), (1, _), (2, _), (3, _)]) (q := 21) dX4_sum_20 rfl rfl (by decide) rfl ?_
        refine wk_iinc (lo' := [(0, _), (1, _), (2, _), (3, _)]) (q := 24) dX4_sum_21 rfl rfl (by decide) rfl ?_
        refine wk_goto (t := 4) dX4_sum_24 rfl ?_
        exact ih
  refine Ct.of (lo := [(0, _), (1, _)]) ok_X4_sum (Nat.le_of_ble_eq_true rfl) rfl ?_
  have l0 := loop 0 (Nat.zero_le _)
  refine wk_iconst (q := 1) dX4_sum_0 rfl ?_
  refine wk_istore_n (i := 2) (lo' := [(0, _), (1, _), (2, _)]) (q := 2) dX4_sum_1 rfl rfl (by decide) rfl ?_
  refine wk_iconst (q := 3) dX4_sum_2 rfl ?_
  refine wk_istore_n (i := 3) (lo' := [(0, _), (1, _), (2, _), (3, _)]) (q := 4) dX4_sum_3 rfl rfl (by decide) rfl ?_
  exact l0
theorem ct_X4_gladInAll {t o : Nat} {ng : Int} (hT : qTab E.2.2 n sh R t o) (hg : I o 7 = ng) (hg2 : 0 ≤ ng ∧ ng ≤ 7) :
    Ct l E 1 mX4_gladInAll [.ref t] (n, sh, I, L, R) 0 0 (qP n sh I L R (fun v => v = sumI (fun g => I (t + 36) g) ng.toNat)) := by
  refine Ct.of (lo := [(0, _)]) ok_X4_gladInAll (Nat.le_of_ble_eq_true rfl) rfl ?_
  refine wk_aload_n (i := 0) (q := 1) dX4_gladInAll_0 rfl rfl rfl ?_
  refine wk_aload_n (i := 0) (q := 2) dX4_gladInAll_1 rfl rfl rfl ?_
  refine wk_getR (fi := 11) (q := 5) dX4_gladInAll_2 rfl fl_X4_43 rfl rfl hT.1.ob hT.1.r11 ?_
  refine wk_cP1 (q := 8) dX4_gladInAll_5 rfl vl_X4_126 ⟨_, _, rfl⟩ hT.1.ob (ct_X4_sum hT hT.1.s11 hg hg2) (qRo_m ok_X4_sum (by decide) (Nat.le_refl _) (Nat.le_refl _)) (Nat.le_of_ble_eq_true rfl) (fun v5 hv5 => ?_)
  refine wk_iret dX4_gladInAll_8 rfl ⟨Nat.le_refl _, Nat.le_refl _⟩ rfl ?_
  refine ⟨_, _, _, _, rfl, rfl, rfl, rfl, rfl, ?_⟩
  exact hv5
theorem ct_X4_paidInAll {t o : Nat} {ng : Int} (hT : qTab E.2.2 n sh R t o) (hg : I o 7 = ng) (hg2 : 0 ≤ ng ∧ ng ≤ 7) :
    Ct l E 1 mX4_paidInAll [.ref t] (n, sh, I, L, R) 0 0 (qP n sh I L R (fun v => v = sumI (fun g => I (t + 37) g) ng.toNat)) := by
  refine Ct.of (lo := [(0, _)]) ok_X4_paidInAll (Nat.le_of_ble_eq_true rfl) rfl ?_
  refine wk_aload_n (i := 0) (q := 1) dX4_paidInAll_0 rfl rfl rfl ?_
  refine wk_aload_n (i := 0) (q := 2) dX4_paidInAll_1 rfl rfl rfl ?_
  refine wk_getR (fi := 12) (q := 5) dX4_paidInAll_2 rfl fl_X4_46 rfl rfl hT.1.ob hT.1.r12 ?_
  refine wk_cP1 (q := 8) dX4_paidInAll_5 rfl vl_X4_126 ⟨_, _, rfl⟩ hT.1.ob (ct_X4_sum hT hT.1.s12 hg hg2) (qRo_m ok_X4_sum (by decide) (Nat.le_refl _) (Nat.le_refl _)) (Nat.le_of_ble_eq_true rfl) (fun v5 hv5 => ?_)
  refine wk_iret dX4_paidInAll_8 rfl ⟨Nat.le_refl _, Nat.le_refl _⟩ rfl ?_
  refine ⟨_, _, _, _, rfl, rfl, rfl, rfl, rfl, ?_⟩
  exact hv5
theorem ct_X4_gladOfLeast {t o : Nat} {ng : Int} (hT : qTab E.2.2 n sh R t o) (hg : I o 7 = ng) (hg2 : 1 ≤ ng ∧ ng ≤ 7) (hb : ∀ g, 0 ≤ g → g < ng → 0 ≤ I (t + 36) g ∧ I (t + 36) g ≤ 1368) :
    Ct l E 1 mX4_gladOfLeast [.ref t] (n, sh, I, L, R) 0 0 (qP n sh I L R (fun v => v = leastI (fun g => I (t + 36) g) (ng - 1).toNat)) := by
  have lb : ∀ k : Nat, k < ng.toNat → 0 ≤ leastI (fun g => I (t + 36) g) k ∧ leastI (fun g => I (t + 36) g) k ≤ 1368 := by
    intro k
    induction k with
    | zero => intro h; exact hb 0 (by omega) (by omega)
    | succ k ih =>
      intro h
      have h1 := ih (by omega)
      have h2 := hb ((k : Int) + 1) (by omega) (by omega)
      have h3 : leastI (fun g => I (t + 36) g) (k + 1) = min (leastI (fun g => I (t + 36) g) k) (I (t + 36) ((k : Int) + 1)) := rfl
      rw [h3]
      omega
  have loop : ∀ k : Nat, k ≤ (ng - 1).toNat → Wk l E (qmo E 1 n 0 0 (qP n sh I L R (fun v => v = leastI (fun g => I (t + 36) g) (ng - 1).toNat))) mX4_gladOfLeast 0 0 9
      [(0, .ref t), (1, .int (zI (leastI (fun g => I (t + 36) g) k))), (2, .int (zI ((k : Int) + 1)))] [] (n, sh, I, L, R) := by
    refine up_ind (ng - 1).toNat ?_ ?_
    · skip
      refine wk_iload_n (i := 2) (q := 10) dX4_gladOfLeast_9 rfl rfl rfl ?_
      refine wk_aload_n (i := 0) (q := 11) dX4_gladOfLeast_10 rfl rfl rfl ?_
      refine wk_getR (fi := 0) (q := 14) dX4_gladOfLeast_11 rfl fl_X4_12 rfl rfl hT.1.ob hT.2.1 ?_
      refine wk_getI (fi := 7) (q := 17) dX4_gladOfLeast_14 rfl fl_X4_49 rfl rfl hT.2.2.ob ?_
      refine wk_icmp_ge (t := 37) (q := 20) dX4_gladOfLeast_17 rfl rfl (by omega) (by omega) (fun hc17 => ?_) (fun hc17 => ?_)
      · refine wk_iload_n (i := 1) (q := 38) dX4_gladOfLeast_37 rfl rfl rfl ?_
        refine wk_iret dX4_gladOfLeast_38 rfl ⟨Nat.le_refl _, Nat.le_refl _⟩ rfl ?_
        refine ⟨_, _, _, _, rfl, rfl, rfl, rfl, rfl, ?_⟩
        rfl
      · omega
    · rintro k hk ih
      have h1 := lb k (by omega)
      have h2 := hb ((k : Int) + 1) (by omega) (by omega)
      refine wk_iload_n (i := 2) (q := 10) dX4_gladOfLeast_9 rfl rfl rfl ?_
      refine wk_aload_n (i := 0) (q := 11) dX4_gladOfLeast_10 rfl rfl rfl ?_
      refine wk_getR (fi := 0) (q := 14) dX4_gladOfLeast_11 rfl fl_X4_12 rfl rfl hT.1.ob hT.2.1 ?_
      refine wk_getI (fi := 7) (q := 17) dX4_gladOfLeast_14 rfl fl_X4_49 rfl rfl hT.2.2.ob ?_
      refine wk_icmp_ge (t := 37) (q := 20) dX4_gladOfLeast_17 rfl rfl (by omega) (by omega) (fun hc17 => ?_) (fun hc17 => ?_)
      · omega
      · refine wk_iload_n (i := 1) (q := 21) dX4_gladOfLeast_20 rfl rfl rfl ?_
        refine wk_aload_n (i := 0) (q := 22) dX4_gladOfLeast_21 rfl rfl rfl ?_
        refine wk_getR (fi := 11) (q := 25) dX4_gladOfLeast_22 rfl fl_X4_43 rfl rfl hT.1.ob hT.1.r11 ?_
        refine wk_iload_n (i := 2) (q := 26) dX4_gladOfLeast_25 rfl rfl rfl ?_
        refine wk_iald (q := 27) dX4_gladOfLeast_26 rfl hT.1.s11 (by omega) ?_
        refine wk_min (q := 30) dX4_gladOfLeast_27 rfl w_mi_4 (by omega) (by omega) (Nat.le_of_ble_eq_true rfl) (Nat.le_of_ble_eq_true rfl) ⟨Nat.le_refl _, Nat.le_refl _⟩ ?_
        refine wk_istore_n (i := 1) (lo' := [(0, _), (1, _), (2, _)]) (q := 31) dX4_gladOfLeast_30 rfl rfl (by decide) rfl ?_
        refine wk_iinc (lo' := [(0, _), (1, _), (2, _)]) (q := 34) dX4_gladOfLeast_31 rfl rfl (by decide) rfl ?_
        refine wk_goto (t := 9) dX4_gladOfLeast_34 rfl ?_
        exact ih
  refine Ct.of (lo := [(0, _)]) ok_X4_gladOfLeast (Nat.le_of_ble_eq_true rfl) rfl ?_
  have l0 := loop 0 (Nat.zero_le _)
  refine wk_aload_n (i := 0) (q := 1) dX4_gladOfLeast_0 rfl rfl rfl ?_
  refine wk_getR (fi := 11) (q := 4) dX4_gladOfLeast_1 rfl fl_X4_43 rfl rfl hT.1.ob hT.1.r11 ?_
  refine wk_iconst (q := 5) dX4_gladOfLeast_4 rfl ?_
  refine wk_iald (q := 6) dX4_gladOfLeast_5 rfl hT.1.s11 (by omega) ?_
  refine wk_istore_n (i := 1) (lo' := [(0, _), (1, _)]) (q := 7) dX4_gladOfLeast_6 rfl rfl (by decide) rfl ?_
  refine wk_iconst (q := 8) dX4_gladOfLeast_7 rfl ?_
  refine wk_istore_n (i := 2) (lo' := [(0, _), (1, _), (2, _)]) (q := 9) dX4_gladOfLeast_8 rfl rfl (by decide) rfl ?_
  exact l0
theorem ct_X4_memory {t o : Nat} {ng : Int} {la : Int → Int} (hT : qTab E.2.2 n sh R t o) (hg : I o 7 = ng) (hg2 : 0 ≤ ng ∧ ng ≤ 7) (hla : ∀ g, 0 ≤ g → g < ng → I (t + 17) g = la g ∧ -9 ≤ la g ∧ la g < 6) :
    Ct l E 0 mX4_memory [.ref t] (n, sh, I, L, R) 0 0 (qP n sh I L R (fun v => v = memK la ng.toNat)) := by
  have hk7 : ∀ k : Nat, k ≤ ng.toNat → 0 ≤ memK la k ∧ memK la k < 2097152 := fun k hk => by
    have h := memK_in (ng := ng.toNat) (la := la) (fun g g0 g1 => ⟨(hla g g0 (by omega)).2.1, (hla g g0 (by omega)).2.2⟩) k hk
    have h2 : (8 : Int) ^ k ≤ 8 ^ 7 := by
      rcases (by omega : k = 0 ∨ k = 1 ∨ k = 2 ∨ k = 3 ∨ k = 4 ∨ k = 5 ∨ k = 6 ∨ k = 7) with rfl | rfl | rfl | rfl | rfl | rfl | rfl | rfl <;> decide
    have h3 : (8 : Int) ^ 7 = 2097152 := by decide
    omega
  have loop : ∀ k : Nat, k ≤ ng.toNat → Wk l E (qmo E 0 n 0 0 (qP n sh I L R (fun v => v = memK la ng.toNat))) mX4_memory 0 0 4
      [(0, .ref t), (1, .int (zI (memK la k))), (2, .int (zI (k : Int)))] [] (n, sh, I, L, R) := by
    refine up_ind ng.toNat ?_ ?_
    · skip
      refine wk_iload_n (i := 2) (q := 5) dX4_memory_4 rfl rfl rfl ?_
      refine wk_aload_n (i := 0) (q := 6) dX4_memory_5 rfl rfl rfl ?_
      refine wk_getR (fi := 0) (q := 9) dX4_memory_6 rfl fl_X4_12 rfl rfl hT.1.ob hT.2.1 ?_
      refine wk_getI (fi := 7) (q := 12) dX4_memory_9 rfl fl_X4_49 rfl rfl hT.2.2.ob ?_
      refine wk_icmp_ge (t := 64) (q := 15) dX4_memory_12 rfl rfl (by omega) (by omega) (fun hc12 => ?_) (fun hc12 => ?_)
      · refine wk_iload_n (i := 1) (q := 65) dX4_memory_64 rfl rfl rfl ?_
        refine wk_iret dX4_memory_65 rfl ⟨Nat.le_refl _, Nat.le_refl _⟩ rfl ?_
        refine ⟨_, _, _, _, rfl, rfl, rfl, rfl, rfl, ?_⟩
        rfl
      · omega
    · rintro k hk ih
      have h1 := hla k (by omega) (by omega)
      have h2 := hk7 k (by omega)
      have h4 := mem1_in h1.2
      have tail : ∀ v : Int, v = mem1 (la k) → Wk l E (qmo E 0 n 0 0 (qP n sh I L R (fun v => v = memK la ng.toNat))) mX4_memory 0 0 51 [(0, .ref t), (1, .int (zI (memK la k))), (2, .int (zI (k : Int)))] [.int (zI v)] (n, sh, I, L, R) := by
        rintro v rfl
        refine wk_istore_n (i := 3) (lo' := [(0, _), (1, _), (2, _), (3, _)]) (q := 52) dX4_memory_51 rfl rfl (by decide) rfl ?_
        refine wk_iload_n (i := 1) (q := 53) dX4_memory_52 rfl rfl rfl ?_
        refine wk_iconst (q := 54) dX4_memory_53 rfl ?_
        refine wk_ishl (q := 55) dX4_memory_54 rfl ?_
        refine wk_iload_n (i := 3) (q := 56) dX4_memory_55 rfl rfl rfl ?_
        refine wk_ior (q := 57) dX4_memory_56 rfl ?_
        rw [zShl_3 h2.1 (by omega), zOr_8 h2.1 (by omega) h4.1 h4.2]
        refine wk_istore_n (i := 1) (lo' := [(0, _), (1, _), (2, _), (3, _)]) (q := 58) dX4_memory_57 rfl rfl (by decide) rfl ?_
        refine wk_iinc (lo' := [(0, _), (1, _), (2, _), (3, _)]) (q := 61) dX4_memory_58 rfl rfl (by decide) rfl ?_
        refine wk_goto (t := 4) dX4_memory_61 rfl ?_
        refine wk_del (i := 3) (lo' := [(0, _), (1, _), (2, _)]) rfl ?_
        exact ih
      refine wk_iload_n (i := 2) (q := 5) dX4_memory_4 rfl rfl rfl ?_
      refine wk_aload_n (i := 0) (q := 6) dX4_memory_5 rfl rfl rfl ?_
      refine wk_getR (fi := 0) (q := 9) dX4_memory_6 rfl fl_X4_12 rfl rfl hT.1.ob hT.2.1 ?_
      refine wk_getI (fi := 7) (q := 12) dX4_memory_9 rfl fl_X4_49 rfl rfl hT.2.2.ob ?_
      refine wk_icmp_ge (t := 64) (q := 15) dX4_memory_12 rfl rfl (by omega) (by omega) (fun hc12 => ?_) (fun hc12 => ?_)
      · omega
      · refine wk_aload_n (i := 0) (q := 16) dX4_memory_15 rfl rfl rfl ?_
        refine wk_getR (fi := 3) (q := 19) dX4_memory_16 rfl fl_X4_25 rfl rfl hT.1.ob hT.1.r3 ?_
        refine wk_iload_n (i := 2) (q := 20) dX4_memory_19 rfl rfl rfl ?_
        refine wk_iald (q := 21) dX4_memory_20 rfl hT.1.s3 (by omega) ?_
        refine wk_bipush (q := 23) dX4_memory_21 rfl (by decide +kernel) ?_
        refine wk_icmp_ne (t := 31) (q := 26) dX4_memory_23 rfl rfl (by omega) (by omega) (fun hc23 => ?_) (fun hc23 => ?_)
        · refine wk_aload_n (i := 0) (q := 32) dX4_memory_31 rfl rfl rfl ?_
          refine wk_getR (fi := 3) (q := 35) dX4_memory_32 rfl fl_X4_25 rfl rfl hT.1.ob hT.1.r3 ?_
          refine wk_iload_n (i := 2) (q := 36) dX4_memory_35 rfl rfl rfl ?_
          refine wk_iald (q := 37) dX4_memory_36 rfl hT.1.s3 (by omega) ?_
          refine wk_if_ge (t := 45) (q := 40) dX4_memory_37 rfl rfl (by omega) (fun hc37 => ?_) (fun hc37 => ?_)
          · refine wk_aload_n (i := 0) (q := 46) dX4_memory_45 rfl rfl rfl ?_
            refine wk_getR (fi := 3) (q := 49) dX4_memory_46 rfl fl_X4_25 rfl rfl hT.1.ob hT.1.r3 ?_
            refine wk_iload_n (i := 2) (q := 50) dX4_memory_49 rfl rfl rfl ?_
            refine wk_iald (q := 51) dX4_memory_50 rfl hT.1.s3 (by omega) ?_
            refine tail _ ?_
            unfold mem1
            first
              | (rw [if_pos (by omega)]; done)
              | (rw [if_neg (by omega), if_pos (by omega)]; done)
              | (rw [if_neg (by omega), if_neg (by omega)]; exact h1.1)
          · refine wk_bipush (q := 42) dX4_memory_40 rfl (by decide +kernel) ?_
            refine wk_goto (t := 51) dX4_memory_42 rfl ?_
            refine tail _ ?_
            unfold mem1
            first
              | (rw [if_pos (by omega)]; done)
              | (rw [if_neg (by omega), if_pos (by omega)]; done)
              | (rw [if_neg (by omega), if_neg (by omega)]; exact h1.1)
        · refine wk_bipush (q := 28) dX4_memory_26 rfl (by decide +kernel) ?_
          refine wk_goto (t := 51) dX4_memory_28 rfl ?_
          refine tail _ ?_
          unfold mem1
          first
            | (rw [if_pos (by omega)]; done)
            | (rw [if_neg (by omega), if_pos (by omega)]; done)
            | (rw [if_neg (by omega), if_neg (by omega)]; exact h1.1)
  refine Ct.of (lo := [(0, _)]) ok_X4_memory (Nat.le_of_ble_eq_true rfl) rfl ?_
  have l0 := loop 0 (Nat.zero_le _)
  refine wk_iconst (q := 1) dX4_memory_0 rfl ?_
  refine wk_istore_n (i := 1) (lo' := [(0, _), (1, _)]) (q := 2) dX4_memory_1 rfl rfl (by decide) rfl ?_
  refine wk_iconst (q := 3) dX4_memory_2 rfl ?_
  refine wk_istore_n (i := 2) (lo' := [(0, _), (1, _), (2, _)]) (q := 4) dX4_memory_3 rfl rfl (by decide) rfl ?_
  exact l0
theorem ct_X4_seatOf {t o : Nat} {se g s0 : Int} (hT : qTab E.2.2 n sh R t o) (hse : I t 5 = se) (hse2 : 0 ≤ se ∧ se ≤ 7) (hg : in32 g) (hb : ∀ s, 0 ≤ s → s < se → in32 (I (t + 15) s)) (hs0 : 0 ≤ s0 ∧ s0 < se) (hs1 : ∀ s, 0 ≤ s → s < se → (I (t + 15) s = g ↔ s = s0)) :
    Ct l E 0 mX4_seatOf [.ref t, .int (zI g)] (n, sh, I, L, R) 0 0 (qP n sh I L R (fun v => v = s0)) := by
  have loop : ∀ k : Nat, k ≤ se.toNat → Wk l E (qmo E 0 n 0 0 (qP n sh I L R (fun v => v = s0))) mX4_seatOf 0 0 4
      [(0, .ref t), (1, .int (zI g)), (2, .int (zI (if s0 < k then s0 else 0))), (3, .int (zI (k : Int)))] [] (n, sh, I, L, R) := by
    refine up_ind se.toNat ?_ ?_
    · skip
      refine wk_iload_n (i := 3) (q := 5) dX4_seatOf_4 rfl rfl rfl ?_
      refine wk_aload_n (i := 0) (q := 6) dX4_seatOf_5 rfl rfl rfl ?_
      refine wk_getI (fi := 5) (q := 9) dX4_seatOf_6 rfl fl_X4_52 rfl rfl hT.1.ob ?_
      refine wk_icmp_ge (t := 30) (q := 12) dX4_seatOf_9 rfl rfl (by omega) (by omega) (fun hc9 => ?_) (fun hc9 => ?_)
      · refine wk_iload_n (i := 2) (q := 31) dX4_seatOf_30 rfl rfl rfl ?_
        refine wk_iret dX4_seatOf_31 rfl ⟨Nat.le_refl _, Nat.le_refl _⟩ rfl ?_
        refine ⟨_, _, _, _, rfl, rfl, rfl, rfl, rfl, ?_⟩
        rw [if_pos (by omega)]
      · omega
    · rintro k hk ih
      have h1 := hb k (by omega) (by omega)
      have h2 := hs1 k (by omega) (by omega)
      refine wk_iload_n (i := 3) (q := 5) dX4_seatOf_4 rfl rfl rfl ?_
      refine wk_aload_n (i := 0) (q := 6) dX4_seatOf_5 rfl rfl rfl ?_
      refine wk_getI (fi := 5) (q := 9) dX4_seatOf_6 rfl fl_X4_52 rfl rfl hT.1.ob ?_
      refine wk_icmp_ge (t := 30) (q := 12) dX4_seatOf_9 rfl rfl (by omega) (by omega) (fun hc9 => ?_) (fun hc9 => ?_)
      · omega
      · refine wk_aload_n (i := 0) (q := 13) dX4_seatOf_12 rfl rfl rfl ?_
        refine wk_getR (fi := 1) (q := 16) dX4_seatOf_13 rfl fl_X4_18 rfl rfl hT.1.ob hT.1.r1 ?_
        refine wk_iload_n (i := 3) (q := 17) dX4_seatOf_16 rfl rfl rfl ?_
        refine wk_iald (q := 18) dX4_seatOf_17 rfl hT.1.s1 (by omega) ?_
        refine wk_iload_n (i := 1) (q := 19) dX4_seatOf_18 rfl rfl rfl ?_
        refine wk_icmp_ne (t := 24) (q := 22) dX4_seatOf_19 rfl rfl (by omega) (by omega) (fun hc19 => ?_) (fun hc19 => ?_)
        · refine wk_iinc (lo' := [(0, _), (1, _), (2, _), (3, _)]) (q := 27) dX4_seatOf_24 rfl rfl (by decide) rfl ?_
          refine wk_goto (t := 4) dX4_seatOf_27 rfl ?_
          first
          | (have hq : s0 = (k : Int) := by omega
             subst hq
             rw [if_pos (by omega)] at ih
             exact ih)
          | (have hq : s0 < (k : Int) := by omega
             rw [if_pos (by omega)] at ih
             rw [if_pos hq]
             exact ih)
          | (have hq : ¬ s0 < (k : Int) := by omega
             rw [if_neg (by omega)] at ih
             rw [if_neg hq]
             exact ih)
          | (have hc : s0 < (k : Int) ∨ (k : Int) < s0 := by omega
             rcases hc with hq | hq
             · rw [if_pos (by omega)] at ih
               rw [if_pos hq]
               exact ih
             · rw [if_neg (by omega)] at ih
               rw [if_neg (by omega)]
               exact ih)
        · refine wk_iload_n (i := 3) (q := 23) dX4_seatOf_22 rfl rfl rfl ?_
          refine wk_istore_n (i := 2) (lo' := [(0, _), (1, _), (2, _), (3, _)]) (q := 24) dX4_seatOf_23 rfl rfl (by decide) rfl ?_
          refine wk_iinc (lo' := [(0, _), (1, _), (2, _), (3, _)]) (q := 27) dX4_seatOf_24 rfl rfl (by decide) rfl ?_
          refine wk_goto (t := 4) dX4_seatOf_27 rfl ?_
          first
          | (have hq : s0 = (k : Int) := by omega
             subst hq
             rw [if_pos (by omega)] at ih
             exact ih)
          | (have hq : s0 < (k : Int) := by omega
             rw [if_pos (by omega)] at ih
             rw [if_pos hq]
             exact ih)
          | (have hq : ¬ s0 < (k : Int) := by omega
             rw [if_neg (by omega)] at ih
             rw [if_neg hq]
             exact ih)
          | (have hc : s0 < (k : Int) ∨ (k : Int) < s0 := by omega
             rcases hc with hq | hq
             · rw [if_pos (by omega)] at ih
               rw [if_pos hq]
               exact ih
             · rw [if_neg (by omega)] at ih
               rw [if_neg (by omega)]
               exact ih)
  refine Ct.of (lo := [(0, _), (1, _)]) ok_X4_seatOf (Nat.le_of_ble_eq_true rfl) rfl ?_
  have l0 := loop 0 (Nat.zero_le _)
  rw [if_neg (by omega)] at l0
  refine wk_iconst (q := 1) dX4_seatOf_0 rfl ?_
  refine wk_istore_n (i := 2) (lo' := [(0, _), (1, _), (2, _)]) (q := 2) dX4_seatOf_1 rfl rfl (by decide) rfl ?_
  refine wk_iconst (q := 3) dX4_seatOf_2 rfl ?_
  refine wk_istore_n (i := 3) (lo' := [(0, _), (1, _), (2, _), (3, _)]) (q := 4) dX4_seatOf_3 rfl rfl (by decide) rfl ?_
  exact l0
theorem ct_X4_isFor {t o : Nat} {g d : Int} (hT : qTab E.2.2 n sh R t o) (hg : 0 ≤ g ∧ g < 7) (hd : 0 ≤ d ∧ d < 6) (hw : in32 (I (o + 7 + g.toNat) d)) (hle : in32 (I (t + 26) d)) :
    Ct l E 1 mX4_isFor [.ref t, .int (zI g), .int (zI d)] (n, sh, I, L, R) 0 0 (qP n sh I L R (qBo (0 < I (t + 26) d ∧ I (o + 7 + g.toNat) d ≠ -1))) := by
  refine Ct.of (lo := [(0, _), (1, _), (2, _)]) ok_X4_isFor (Nat.le_of_ble_eq_true rfl) rfl ?_
  refine wk_aload_n (i := 0) (q := 1) dX4_isFor_0 rfl rfl rfl ?_
  refine wk_getR (fi := 9) (q := 4) dX4_isFor_1 rfl fl_X4_37 rfl rfl hT.1.ob hT.1.r9 ?_
  refine wk_iload_n (i := 2) (q := 5) dX4_isFor_4 rfl rfl rfl ?_
  refine wk_iald (q := 6) dX4_isFor_5 rfl hT.1.s9 (by omega) ?_
  refine wk_if_le (t := 25) (q := 9) dX4_isFor_6 rfl rfl (by omega) (fun hc6 => ?_) (fun hc6 => ?_)
  · refine wk_iconst (q := 26) dX4_isFor_25 rfl ?_
    refine wk_zret dX4_isFor_26 rfl (by omega) ⟨Nat.le_refl _, Nat.le_refl _⟩ rfl ?_
    refine ⟨_, _, _, _, rfl, rfl, rfl, rfl, rfl, ?_⟩
    unfold qBo
    omega
  · refine wk_aload_n (i := 0) (q := 10) dX4_isFor_9 rfl rfl rfl ?_
    refine wk_getR (fi := 0) (q := 13) dX4_isFor_10 rfl fl_X4_12 rfl rfl hT.1.ob hT.2.1 ?_
    refine wk_iload_n (i := 1) (q := 14) dX4_isFor_13 rfl rfl rfl ?_
    refine wk_iload_n (i := 2) (q := 15) dX4_isFor_14 rfl rfl rfl ?_
    refine wk_cP2 (q := 18) dX4_isFor_15 rfl vl_X4_83 ⟨_, _, rfl⟩ hT.2.2.ob (ct_X5_mayHave hT.2.2 hg hd hw) (qRo_m ok_X5_mayHave (by decide) (Nat.le_refl _) (Nat.le_refl _)) (Nat.le_of_ble_eq_true rfl) (fun v15 hv15 => ?_)
    rcases hv15 with ⟨rfl, hv15⟩ | ⟨rfl, hv15⟩
    · refine wk_if_eq (t := 25) (q := 21) dX4_isFor_18 rfl rfl (by omega) (fun hq => absurd hq (by decide)) (fun _ => ?_)
      refine wk_iconst (q := 22) dX4_isFor_21 rfl ?_
      refine wk_goto (t := 26) dX4_isFor_22 rfl ?_
      refine wk_zret dX4_isFor_26 rfl (by omega) ⟨Nat.le_refl _, Nat.le_refl _⟩ rfl ?_
      refine ⟨_, _, _, _, rfl, rfl, rfl, rfl, rfl, ?_⟩
      unfold qBo
      omega
    · refine wk_if_eq (t := 25) (q := 21) dX4_isFor_18 rfl rfl (by omega) (fun _ => ?_) (fun hq => absurd hq (by decide))
      refine wk_iconst (q := 26) dX4_isFor_25 rfl ?_
      refine wk_zret dX4_isFor_26 rfl (by omega) ⟨Nat.le_refl _, Nat.le_refl _⟩ rfl ?_
      refine ⟨_, _, _, _, rfl, rfl, rfl, rfl, rfl, ?_⟩
      unfold qBo
      omega
theorem ct_X4_isAnyFor {t o : Nat} {g nd : Int} (hT : qTab E.2.2 n sh R t o) (hg : 0 ≤ g ∧ g < 7) (hnd : I o 6 = nd) (hnd2 : 0 ≤ nd ∧ nd ≤ 6) (hb : ∀ d, 0 ≤ d → d < nd → in32 (I (o + 7 + g.toNat) d) ∧ in32 (I (t + 26) d)) :
    Ct l E 2 mX4_isAnyFor [.ref t, .int (zI g)] (n, sh, I, L, R) 0 0 (qP n sh I L R (qBo (∃ d : Int, 0 ≤ d ∧ d < nd ∧ 0 < I (t + 26) d ∧ I (o + 7 + g.toNat) d ≠ -1))) := by
  have loop : ∀ k : Nat, k ≤ nd.toNat → ∀ v : Int, qBo (∃ d : Int, 0 ≤ d ∧ d < k ∧ 0 < I (t + 26) d ∧ I (o + 7 + g.toNat) d ≠ -1) v → Wk l E (qmo E 2 n 0 0 (qP n sh I L R (qBo (∃ d : Int, 0 ≤ d ∧ d < nd ∧ 0 < I (t + 26) d ∧ I (o + 7 + g.toNat) d ≠ -1)))) mX4_isAnyFor 0 0 4
      [(0, .ref t), (1, .int (zI g)), (2, .int (zI v)), (3, .int (zI (k : Int)))] [] (n, sh, I, L, R) := by
    refine up_ind nd.toNat ?_ ?_
    · intro v hv
      have hvb : v = 0 ∨ v = 1 := by unfold qBo at hv; omega
      rw [show ((nd.toNat : Nat) : Int) = nd by omega] at hv ⊢
      refine wk_iload_n (i := 3) (q := 5) dX4_isAnyFor_4 rfl rfl rfl ?_
      refine wk_aload_n (i := 0) (q := 6) dX4_isAnyFor_5 rfl rfl rfl ?_
      refine wk_getR (fi := 0) (q := 9) dX4_isAnyFor_6 rfl fl_X4_12 rfl rfl hT.1.ob hT.2.1 ?_
      refine wk_getI (fi := 6) (q := 12) dX4_isAnyFor_9 rfl fl_X4_80 rfl rfl hT.2.2.ob ?_
      refine wk_icmp_ge (t := 40) (q := 15) dX4_isAnyFor_12 rfl rfl (by omega) (by omega) (fun hc12 => ?_) (fun hc12 => ?_)
      · refine wk_iload_n (i := 2) (q := 41) dX4_isAnyFor_40 rfl rfl rfl ?_
        refine wk_zret dX4_isAnyFor_41 rfl (by omega) ⟨Nat.le_refl _, Nat.le_refl _⟩ rfl ?_
        refine ⟨_, _, _, _, rfl, rfl, rfl, rfl, rfl, ?_⟩
        exact hv
      · omega
    · rintro k hk ih v hv
      have h1 := hb k (by omega) (by omega)
      have step : ∀ w : Int, (w = 1 → ∃ d : Int, 0 ≤ d ∧ d < (k + 1 : Nat) ∧ 0 < I (t + 26) d ∧ I (o + 7 + g.toNat) d ≠ -1) → (w = 0 → ¬ (∃ d : Int, 0 ≤ d ∧ d < (k : Nat) ∧ 0 < I (t + 26) d ∧ I (o + 7 + g.toNat) d ≠ -1) ∧ ¬ (0 < I (t + 26) k ∧ I (o + 7 + g.toNat) k ≠ -1)) → (w = 0 ∨ w = 1) → qBo (∃ d : Int, 0 ≤ d ∧ d < (k + 1 : Nat) ∧ 0 < I (t + 26) d ∧ I (o + 7 + g.toNat) d ≠ -1) w := by
        intro w w1 w0 hw
        rcases hw with hw | hw
        · refine Or.inr ⟨hw, fun ⟨d, d0, d1, d2⟩ => ?_⟩
          by_cases hd : d = k
          · subst hd
            exact (w0 hw).2 d2
          · exact (w0 hw).1 ⟨d, d0, by omega, d2⟩
        · exact Or.inl ⟨hw, w1 hw⟩
      rcases hv with ⟨rfl, hv⟩ | ⟨rfl, hv⟩
      · skip
        refine wk_iload_n (i := 3) (q := 5) dX4_isAnyFor_4 rfl rfl rfl ?_
        refine wk_aload_n (i := 0) (q := 6) dX4_isAnyFor_5 rfl rfl rfl ?_
        refine wk_getR (fi := 0) (q := 9) dX4_isAnyFor_6 rfl fl_X4_12 rfl rfl hT.1.ob hT.2.1 ?_
        refine wk_getI (fi := 6) (q := 12) dX4_isAnyFor_9 rfl fl_X4_80 rfl rfl hT.2.2.ob ?_
        refine wk_icmp_ge (t := 40) (q := 15) dX4_isAnyFor_12 rfl rfl (by omega) (by omega) (fun hc12 => ?_) (fun hc12 => ?_)
        · omega
        · refine wk_iload_n (i := 2) (q := 16) dX4_isAnyFor_15 rfl rfl rfl ?_
          refine wk_if_ne (t := 28) (q := 19) dX4_isAnyFor_16 rfl rfl (by omega) (fun _ => ?_) (fun hq => absurd hq (by decide))
          refine wk_iconst (q := 29) dX4_isAnyFor_28 rfl ?_
          refine wk_goto (t := 33) dX4_isAnyFor_29 rfl ?_
          refine wk_istore_n (i := 2) (lo' := [(0, _), (1, _), (2, _), (3, _)]) (q := 34) dX4_isAnyFor_33 rfl rfl (by decide) rfl ?_
          refine wk_iinc (lo' := [(0, _), (1, _), (2, _), (3, _)]) (q := 37) dX4_isAnyFor_34 rfl rfl (by decide) rfl ?_
          refine wk_goto (t := 4) dX4_isAnyFor_37 rfl ?_
          refine ih _ (step _ (fun _ => ?_) (fun q => absurd q (by decide)) (Or.inr rfl))
          obtain ⟨d, d0, d1, d2⟩ := hv
          exact ⟨d, d0, by omega, d2⟩
      · skip
        refine wk_iload_n (i := 3) (q := 5) dX4_isAnyFor_4 rfl rfl rfl ?_
        refine wk_aload_n (i := 0) (q := 6) dX4_isAnyFor_5 rfl rfl rfl ?_
        refine wk_getR (fi := 0) (q := 9) dX4_isAnyFor_6 rfl fl_X4_12 rfl rfl hT.1.ob hT.2.1 ?_
        refine wk_getI (fi := 6) (q := 12) dX4_isAnyFor_9 rfl fl_X4_80 rfl rfl hT.2.2.ob ?_
        refine wk_icmp_ge (t := 40) (q := 15) dX4_isAnyFor_12 rfl rfl (by omega) (by omega) (fun hc12 => ?_) (fun hc12 => ?_)
        · omega
        · refine wk_iload_n (i := 2) (q := 16) dX4_isAnyFor_15 rfl rfl rfl ?_
          refine wk_if_ne (t := 28) (q := 19) dX4_isAnyFor_16 rfl rfl (by omega) (fun hq => absurd hq (by decide)) (fun _ => ?_)
          refine wk_aload_n (i := 0) (q := 20) dX4_isAnyFor_19 rfl rfl rfl ?_
          refine wk_iload_n (i := 1) (q := 21) dX4_isAnyFor_20 rfl rfl rfl ?_
          refine wk_iload_n (i := 3) (q := 22) dX4_isAnyFor_21 rfl rfl rfl ?_
          refine wk_cP2 (q := 25) dX4_isAnyFor_22 rfl vl_X4_94 ⟨_, _, rfl⟩ hT.1.ob (ct_X4_isFor hT hg (by omega) h1.1 h1.2) (qRo_m ok_X4_isFor (by decide) (Nat.le_refl _) (Nat.le_refl _)) (Nat.le_of_ble_eq_true rfl) (fun v22 hv22 => ?_)
          rcases hv22 with ⟨rfl, hv22⟩ | ⟨rfl, hv22⟩
          · refine wk_if_eq (t := 32) (q := 28) dX4_isAnyFor_25 rfl rfl (by omega) (fun hq => absurd hq (by decide)) (fun _ => ?_)
            refine wk_iconst (q := 29) dX4_isAnyFor_28 rfl ?_
            refine wk_goto (t := 33) dX4_isAnyFor_29 rfl ?_
            refine wk_istore_n (i := 2) (lo' := [(0, _), (1, _), (2, _), (3, _)]) (q := 34) dX4_isAnyFor_33 rfl rfl (by decide) rfl ?_
            refine wk_iinc (lo' := [(0, _), (1, _), (2, _), (3, _)]) (q := 37) dX4_isAnyFor_34 rfl rfl (by decide) rfl ?_
            refine wk_goto (t := 4) dX4_isAnyFor_37 rfl ?_
            first
            | exact ih _ (step _ (fun _ => ⟨k, by omega, by omega, hv22⟩) (fun q => absurd q (by decide)) (Or.inr rfl))
            | exact ih _ (step _ (fun q => absurd q (by decide)) (fun _ => ⟨hv, hv22⟩) (Or.inl rfl))
          · refine wk_if_eq (t := 32) (q := 28) dX4_isAnyFor_25 rfl rfl (by omega) (fun _ => ?_) (fun hq => absurd hq (by decide))
            refine wk_iconst (q := 33) dX4_isAnyFor_32 rfl ?_
            refine wk_istore_n (i := 2) (lo' := [(0, _), (1, _), (2, _), (3, _)]) (q := 34) dX4_isAnyFor_33 rfl rfl (by decide) rfl ?_
            refine wk_iinc (lo' := [(0, _), (1, _), (2, _), (3, _)]) (q := 37) dX4_isAnyFor_34 rfl rfl (by decide) rfl ?_
            refine wk_goto (t := 4) dX4_isAnyFor_37 rfl ?_
            first
            | exact ih _ (step _ (fun _ => ⟨k, by omega, by omega, hv22⟩) (fun q => absurd q (by decide)) (Or.inr rfl))
            | exact ih _ (step _ (fun q => absurd q (by decide)) (fun _ => ⟨hv, hv22⟩) (Or.inl rfl))
  refine Ct.of (lo := [(0, _), (1, _)]) ok_X4_isAnyFor (Nat.le_of_ble_eq_true rfl) rfl ?_
  have l0 := loop 0 (Nat.zero_le _) 0 (Or.inr ⟨rfl, fun ⟨d, d0, d1, _⟩ => by omega⟩)
  refine wk_iconst (q := 1) dX4_isAnyFor_0 rfl ?_
  refine wk_istore_n (i := 2) (lo' := [(0, _), (1, _), (2, _)]) (q := 2) dX4_isAnyFor_1 rfl rfl (by decide) rfl ?_
  refine wk_iconst (q := 3) dX4_isAnyFor_2 rfl ?_
  refine wk_istore_n (i := 3) (lo' := [(0, _), (1, _), (2, _), (3, _)]) (q := 4) dX4_isAnyFor_3 rfl rfl (by decide) rfl ?_
  exact l0
end TABLE2
