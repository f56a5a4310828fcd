/-! THE LAW's small methods -/
def trI (I : qI) (a : Nat) (g d : Int) : Int := if d < 0 then 0 else I a (6 * g + d)
theorem cpI_0 (I : qI) (a b : Nat) : cpI I a b 0 0 0 = I := by
  funext c i
  unfold cpI
  rw [if_neg (by omega)]
theorem cpI_s (I : qI) {a b : Nat} (h : a ≠ b) (k : Nat) : up (cpI I a b 0 0 k) b k (cpI I a b 0 0 k a k) = cpI I a b 0 0 (k + 1 : Nat) := by
  funext c i
  have e : cpI I a b 0 0 k a k = I a k := by
    unfold cpI
    rw [if_neg (by omega)]
  rw [e]
  unfold up cpI
  by_cases h1 : c = b ∧ i = k
  · rw [if_pos h1, if_pos (by omega), h1.2]
    exact congrArg (I a) (by omega)
  · rw [if_neg h1]
    by_cases h2 : c = b ∧ 0 ≤ i ∧ i < 0 + (k : Int)
    · rw [if_pos h2, if_pos (by omega)]
    · rw [if_neg h2, if_neg (by omega)]
section SMALL
variable {l : Launch} {E : qEv} {n : Nat} {sh : qSh} {I L : qI} {R : qR}
theorem ct_cell {b N : Nat} {xs : Nat → Int32} {i : Int} (hL : N ≤ 260) (hi : 0 ≤ i ∧ i < 1000) : CtS l E 0 mL_cell [.ref b, .int (zI i)] (n, sh, I, L, R) 0 0 (qP n sh I L R (fun v => in32 v)) b N xs := by
  refine CtS.of (lo := [(0, _), (1, _)]) ok_L_cell (Nat.le_of_ble_eq_true rfl) rfl ?_
  refine wk_iload_n (i := 1) (q := 1) dL_cell_0 rfl rfl rfl ?_
  refine wk_aload_n (i := 0) (q := 2) dL_cell_1 rfl rfl rfl ?_
  refine wk_slenS (q := 3) dL_cell_2 rfl (fun _ h => h) ?_
  refine wk_icmp_ge (t := 12) (q := 6) dL_cell_3 rfl rfl (by omega) (by omega) (fun hc3 => ?_) (fun hc3 => ?_)
  · refine wk_ldc (z := 747796405) (q := 14) dL_cell_12 rfl (v := 747796405) (qtb_in 507 (by decide +kernel) (by decide +kernel)) rfl ?_
    refine wk_iload_n (i := 1) (q := 15) dL_cell_14 rfl rfl rfl ?_
    refine wk_iconst (q := 16) dL_cell_15 rfl ?_
    refine wk_iadd (q := 17) dL_cell_16 rfl ?_
    refine wk_imul (q := 18) dL_cell_17 rfl ?_
    refine wk_iretS dL_cell_18 rfl ⟨Nat.le_refl _, Nat.le_refl _⟩ rfl ?_
    first | exact ⟨_, _, _, _, rfl, rfl, rfl, rfl, rfl, sc_in _⟩ | exact ⟨(zI (747796405 * (i + 1))).toInt, _, _, _, congrArg (fun z => some (Value.int z)) (zI_of _).symm, rfl, rfl, rfl, rfl, zI_in _⟩
  · refine wk_aload_n (i := 0) (q := 7) dL_cell_6 rfl rfl rfl ?_
    refine wk_iload_n (i := 1) (q := 8) dL_cell_7 rfl rfl rfl ?_
    refine wk_sldS (q := 9) dL_cell_8 rfl (fun _ h => h) (by omega) (by omega) ?_
    refine wk_goto (t := 18) dL_cell_9 rfl ?_
    refine wk_iretS dL_cell_18 rfl ⟨Nat.le_refl _, Nat.le_refl _⟩ rfl ?_
    first | exact ⟨_, _, _, _, rfl, rfl, rfl, rfl, rfl, sc_in _⟩ | exact ⟨(zI (747796405 * (i + 1))).toInt, _, _, _, congrArg (fun z => some (Value.int z)) (zI_of _).symm, rfl, rfl, rfl, rfl, zI_in _⟩
theorem ct_some {a m : Int} (hm : 1 ≤ m ∧ m < 2147483648) : Ct l E 0 mL_some [.int (zI a), .int (zI m)] (n, sh, I, L, R) 0 0 (qP n sh I L R (fun v => 0 ≤ v ∧ v < m)) := by
  have hz := zAnd_nn a
  refine Ct.of (lo := [(0, _), (1, _)]) ok_L_some (Nat.le_of_ble_eq_true rfl) rfl ?_
  refine wk_iload_n (i := 0) (q := 1) dL_some_0 rfl rfl rfl ?_
  refine wk_ldc (z := 2147483647) (q := 3) dL_some_1 rfl (v := 2147483647) (qtb_in 511 (by decide +kernel) (by decide +kernel)) rfl ?_
  refine wk_iand (q := 4) dL_some_3 rfl ?_
  refine wk_iload_n (i := 1) (q := 5) dL_some_4 rfl rfl rfl ?_
  refine wk_irem (q := 6) dL_some_5 rfl (by omega) (by omega) ?_
  refine wk_iret dL_some_6 rfl ⟨Nat.le_refl _, Nat.le_refl _⟩ rfl ?_
  refine ⟨_, _, _, _, rfl, rfl, rfl, rfl, rfl, ?_⟩
  exact ⟨Int.emod_nonneg _ (by omega), Int.emod_lt_of_pos _ (by omega)⟩
theorem ct_truly {a : Nat} {g d : Int} (ha : isC E.2.2 n sh a 0 42) (hg : 0 ≤ g ∧ g < 7) (hd : -9 ≤ d ∧ d < 6) : Ct l E 0 mL_truly [.ref a, .int (zI g), .int (zI d)] (n, sh, I, L, R) 0 0 (qP n sh I L R (fun v => v = trI I a g d)) := by
  refine Ct.of (lo := [(0, _), (1, _), (2, _)]) ok_L_truly (Nat.le_of_ble_eq_true rfl) rfl ?_
  unfold trI
  refine wk_iload_n (i := 2) (q := 1) dL_truly_0 rfl rfl rfl ?_
  refine wk_if_ge (t := 8) (q := 4) dL_truly_1 rfl rfl (by omega) (fun hc1 => ?_) (fun hc1 => ?_)
  · refine wk_aload_n (i := 0) (q := 9) dL_truly_8 rfl rfl rfl ?_
    refine wk_bipush (q := 11) dL_truly_9 rfl (by decide +kernel) ?_
    refine wk_iload_n (i := 1) (q := 12) dL_truly_11 rfl rfl rfl ?_
    refine wk_imul (q := 13) dL_truly_12 rfl ?_
    refine wk_iload_n (i := 2) (q := 14) dL_truly_13 rfl rfl rfl ?_
    refine wk_iadd (q := 15) dL_truly_14 rfl ?_
    refine wk_iald (q := 16) dL_truly_15 rfl ha (by omega) ?_
    refine wk_iret dL_truly_16 rfl ⟨Nat.le_refl _, Nat.le_refl _⟩ rfl ?_
    refine ⟨_, _, _, _, rfl, rfl, rfl, rfl, rfl, ?_⟩
    first | exact (if_pos (by omega)).symm | exact (if_neg (by omega)).symm
  · refine wk_iconst (q := 5) dL_truly_4 rfl ?_
    refine wk_goto (t := 16) dL_truly_5 rfl ?_
    refine wk_iret dL_truly_16 rfl ⟨Nat.le_refl _, Nat.le_refl _⟩ rfl ?_
    refine ⟨_, _, _, _, rfl, rfl, rfl, rfl, rfl, ?_⟩
    first | exact (if_pos (by omega)).symm | exact (if_neg (by omega)).symm
theorem ct_all {a c : Nat} {m : Int} (ha : isC E.2.2 n sh a 0 51) (hc : isC E.2.2 n sh c 0 14) (hm : 0 ≤ m ∧ m ≤ 7) (hs : ∀ k, 0 ≤ k → k < m → 0 ≤ I a (37 + k) ∧ I a (37 + k) < 7) : Ct l E 0 mL_all [.ref a, .int (zI m), .ref c] (n, sh, I, L, R) 0 0 (qP n sh I L R (fun v => v = sumI (fun k => I c (I a (37 + k))) m.toNat)) := by
  have loop : ∀ k : Nat, k ≤ m.toNat → Wk l E (qmo E 0 n 0 0 (qP n sh I L R (fun v => v = sumI (fun k => I c (I a (37 + k))) m.toNat))) mL_all 0 0 5
      [(0, .ref a), (1, .int (zI m)), (2, .ref c), (3, .int (zI (sumI (fun k => I c (I a (37 + k))) k))), (4, .int (zI k))] [] (n, sh, I, L, R) := by
    refine up_ind m.toNat ?_ ?_
    · skip
      refine wk_iload (i := 4) (q := 7) dL_all_5 rfl rfl ?_
      refine wk_iload_n (i := 1) (q := 8) dL_all_7 rfl rfl rfl ?_
      refine wk_icmp_ge (t := 29) (q := 11) dL_all_8 rfl rfl (by omega) (by omega) (fun hc8 => ?_) (fun hc8 => ?_)
      · refine wk_iload_n (i := 3) (q := 30) dL_all_29 rfl rfl rfl ?_
        refine wk_iret dL_all_30 rfl ⟨Nat.le_refl _, Nat.le_refl _⟩ rfl ?_
        refine ⟨_, _, _, _, rfl, rfl, rfl, rfl, rfl, ?_⟩
        rfl
      · omega
    · intro k hk ih
      have hs' := hs k (by omega) (by omega)
      refine wk_iload (i := 4) (q := 7) dL_all_5 rfl rfl ?_
      refine wk_iload_n (i := 1) (q := 8) dL_all_7 rfl rfl rfl ?_
      refine wk_icmp_ge (t := 29) (q := 11) dL_all_8 rfl rfl (by omega) (by omega) (fun hc8 => ?_) (fun hc8 => ?_)
      · omega
      · refine wk_iload_n (i := 3) (q := 12) dL_all_11 rfl rfl rfl ?_
        refine wk_aload_n (i := 2) (q := 13) dL_all_12 rfl rfl rfl ?_
        refine wk_aload_n (i := 0) (q := 14) dL_all_13 rfl rfl rfl ?_
        refine wk_bipush (q := 16) dL_all_14 rfl (by decide +kernel) ?_
        refine wk_iload (i := 4) (q := 18) dL_all_16 rfl rfl ?_
        refine wk_iadd (q := 19) dL_all_18 rfl ?_
        refine wk_iald (q := 20) dL_all_19 rfl ha (by omega) ?_
        refine wk_iald (q := 21) dL_all_20 rfl hc (by omega) ?_
        refine wk_iadd (q := 22) dL_all_21 rfl ?_
        refine wk_istore_n (i := 3) (lo' := [(0, _), (1, _), (2, _), (3, _), (4, _)]) (q := 23) dL_all_22 rfl rfl (by decide) rfl ?_
        refine wk_iinc (lo' := [(0, _), (1, _), (2, _), (3, _), (4, _)]) (q := 26) dL_all_23 rfl rfl (by decide) rfl ?_
        refine wk_goto (t := 5) dL_all_26 rfl ?_
        exact ih
  have l0 := loop 0 (Nat.zero_le _)
  refine Ct.of (lo := [(0, _), (1, _), (2, _)]) ok_L_all (Nat.le_of_ble_eq_true rfl) rfl ?_
  refine wk_iconst (q := 1) dL_all_0 rfl ?_
  refine wk_istore_n (i := 3) (lo' := [(0, _), (1, _), (2, _), (3, _)]) (q := 2) dL_all_1 rfl rfl (by decide) rfl ?_
  refine wk_iconst (q := 3) dL_all_2 rfl ?_
  refine wk_istore (i := 4) (lo' := [(0, _), (1, _), (2, _), (3, _), (4, _)]) (q := 5) dL_all_3 rfl (by decide) rfl ?_
  exact l0
theorem ct_like {a b : Nat} (ha : isC E.2.2 n sh a 0 51) (hb : isC E.2.2 n sh b 0 51) (hne : a ≠ b) : Ct l E 0 mL_like [.ref a, .ref b] (n, sh, I, L, R) 0 0 (qV n sh (fun I' L' R' => I' = cpI I a b 0 0 (51 : Nat) ∧ L' = L ∧ R' = R)) := by
  have loop : ∀ k : Nat, k ≤ 51 → Wk l E (qmo E 0 n 0 0 (qV n sh (fun I' L' R' => I' = cpI I a b 0 0 (51 : Nat) ∧ L' = L ∧ R' = R))) mL_like 0 0 2
      [(0, .ref a), (1, .ref b), (2, .int (zI k))] [] (n, sh, cpI I a b 0 0 k, L, R) := by
    refine up_ind 51 ?_ ?_
    · skip
      refine wk_iload_n (i := 2) (q := 3) dL_like_2 rfl rfl rfl ?_
      refine wk_aload_n (i := 0) (q := 4) dL_like_3 rfl rfl rfl ?_
      refine wk_alen (q := 5) dL_like_4 rfl ha (by decide) ?_
      refine wk_icmp_ge (t := 20) (q := 8) dL_like_5 rfl rfl (by omega) (by omega) (fun hc5 => ?_) (fun hc5 => ?_)
      · refine wk_ret dL_like_20 rfl ⟨Nat.le_refl _, Nat.le_refl _⟩ rfl ?_
        exact ⟨_, _, _, rfl, rfl, rfl, rfl, rfl⟩
      · omega
    · intro k hk ih
      rw [← cpI_s I hne k] at ih
      refine wk_iload_n (i := 2) (q := 3) dL_like_2 rfl rfl rfl ?_
      refine wk_aload_n (i := 0) (q := 4) dL_like_3 rfl rfl rfl ?_
      refine wk_alen (q := 5) dL_like_4 rfl ha (by decide) ?_
      refine wk_icmp_ge (t := 20) (q := 8) dL_like_5 rfl rfl (by omega) (by omega) (fun hc5 => ?_) (fun hc5 => ?_)
      · omega
      · refine wk_aload_n (i := 1) (q := 9) dL_like_8 rfl rfl rfl ?_
        refine wk_iload_n (i := 2) (q := 10) dL_like_9 rfl rfl rfl ?_
        refine wk_aload_n (i := 0) (q := 11) dL_like_10 rfl rfl rfl ?_
        refine wk_iload_n (i := 2) (q := 12) dL_like_11 rfl rfl rfl ?_
        refine wk_iald (q := 13) dL_like_12 rfl ha (by omega) ?_
        refine wk_iast (q := 14) dL_like_13 rfl hb (by omega) ?_
        refine wk_iinc (lo' := [(0, _), (1, _), (2, _)]) (q := 17) dL_like_14 rfl rfl (by decide) rfl ?_
        refine wk_goto (t := 2) dL_like_17 rfl ?_
        exact ih
  have l0 := loop 0 (Nat.zero_le _)
  rw [show ((0 : Nat) : Int) = 0 from rfl, cpI_0] at l0
  refine Ct.of (lo := [(0, _), (1, _)]) ok_L_like (Nat.le_of_ble_eq_true rfl) rfl ?_
  refine wk_iconst (q := 1) dL_like_0 rfl ?_
  refine wk_istore_n (i := 2) (lo' := [(0, _), (1, _), (2, _)]) (q := 2) dL_like_1 rfl rfl (by decide) rfl ?_
  exact l0
theorem gcdI_zero' {x : Int} (hx : 0 ≤ x) : gcdI x 0 = x := by
  unfold gcdI
  rw [show (0 : Int).toNat = 0 from rfl, Nat.gcd_zero_right]
  omega
theorem gcdI_step' {x y : Int} (hx : 0 ≤ x) (hy : 0 < y) : gcdI y (x % y) = gcdI x y := by
  unfold gcdI
  have e : (x % y).toNat = x.toNat % y.toNat := by
    obtain ⟨a, rfl⟩ := Int.eq_ofNat_of_zero_le hx
    obtain ⟨b, rfl⟩ := Int.eq_ofNat_of_zero_le (Int.le_of_lt hy)
    rfl
  rw [e, Nat.gcd_comm y.toNat, ← Nat.gcd_rec, Nat.gcd_comm]
theorem ct_isAlike {a b : Int} (ha : 0 ≤ a ∧ a < 2147483648) (hb : 1 ≤ b ∧ b < 2147483648) :
    Ct l E 0 mL_isAlike [.long (zL a), .long (zL b), .long (zL (shareR a b 0)), .long (zL (shareR a b 1))] (n, sh, I, L, R) 0 0 (qP n sh I L R (fun v => v = 1)) := by
  have hg := gcdI_bd (a := a) hb.1
  have hu : shareR a b 0 = a / gcdI a b := rfl
  have hd : shareR a b 1 = b / gcdI a b := rfl
  obtain ⟨G, hG⟩ : ∃ G, G = gcdI a b := ⟨_, rfl⟩
  rw [← hG] at hg hu hd
  generalize shareR a b 0 = u at hu ⊢
  generalize shareR a b 1 = d at hd ⊢
  have b1 : 0 ≤ a / G ∧ a / G ≤ a := ⟨Int.ediv_nonneg ha.1 (by omega), Int.ediv_le_self _ ha.1⟩
  have b2 : 0 ≤ b / G ∧ b / G ≤ b := ⟨Int.ediv_nonneg (by omega) (by omega), Int.ediv_le_self _ (by omega)⟩
  have loop : ∀ N : Nat, ∀ x y : Int, ∀ lo0 : List (Nat × Value), 0 ≤ x → x < 2147483648 → 0 ≤ y → y ≤ N → y < 2147483648 → gcdI x y = G → Wk l E (qmo E 0 n 0 0 (qP n sh I L R (fun v => v = 1))) mL_isAlike 0 0 6
      [(0, .long (zL a)), (2, .long (zL b)), (4, .long (zL u)), (6, .long (zL d)), (8, .long (zL x)), (10, .long (zL y))] [] (n, sh, I, L, R) := by
    intro N
    induction N with
    | zero =>
      intro x y lo0 x0 x1 y0 y1 y2 hgc
      have hy : y = 0 := by omega
      subst hy
      rw [gcdI_zero' x0] at hgc
      subst hgc
      refine wk_lload (i := 10) (q := 8) dL_isAlike_6 rfl rfl ?_
      refine wk_lconst (z := 0) (q := 9) dL_isAlike_8 rfl rfl ?_
      refine wk_lcmp (q := 10) dL_isAlike_9 rfl (by omega) (by omega) (fun hc9 => ?_) (fun hc9 => ?_) (fun hc9 => ?_)
      · refine wk_if_eq (t := 31) (q := 13) dL_isAlike_10 rfl rfl (by omega) (fun hq => absurd hq (by decide)) (fun _ => ?_)
        omega
      · refine wk_if_eq (t := 31) (q := 13) dL_isAlike_10 rfl rfl (by omega) (fun _ => ?_) (fun hq => absurd hq (by decide))
        refine wk_lload (i := 8) (q := 33) dL_isAlike_31 rfl rfl ?_
        refine wk_lconst (z := 0) (q := 34) dL_isAlike_33 rfl rfl ?_
        refine wk_lcmp (q := 35) dL_isAlike_34 rfl (by omega) (by omega) (fun hc34 => ?_) (fun hc34 => ?_) (fun hc34 => ?_)
        · refine wk_if_le (t := 62) (q := 38) dL_isAlike_35 rfl rfl (by omega) (fun hq => absurd hq (by decide)) (fun _ => ?_)
          refine wk_lload (i := 4) (q := 40) dL_isAlike_38 rfl rfl ?_
          refine wk_lload_n (i := 0) (q := 41) dL_isAlike_40 rfl rfl rfl ?_
          refine wk_lload (i := 8) (q := 43) dL_isAlike_41 rfl rfl ?_
          refine wk_ldiv (q := 44) dL_isAlike_43 rfl (by omega) (by omega) ?_
          refine wk_lcmp (q := 45) dL_isAlike_44 rfl (by omega) (by omega) (fun hc44 => ?_) (fun hc44 => ?_) (fun hc44 => ?_)
          · refine wk_if_ne (t := 62) (q := 48) dL_isAlike_45 rfl rfl (by omega) (fun _ => ?_) (fun hq => absurd hq (by decide))
            omega
          · refine wk_if_ne (t := 62) (q := 48) dL_isAlike_45 rfl rfl (by omega) (fun hq => absurd hq (by decide)) (fun _ => ?_)
            refine wk_lload (i := 6) (q := 50) dL_isAlike_48 rfl rfl ?_
            refine wk_lload_n (i := 2) (q := 51) dL_isAlike_50 rfl rfl rfl ?_
            refine wk_lload (i := 8) (q := 53) dL_isAlike_51 rfl rfl ?_
            refine wk_ldiv (q := 54) dL_isAlike_53 rfl (by omega) (by omega) ?_
            refine wk_lcmp (q := 55) dL_isAlike_54 rfl (by omega) (by omega) (fun hc54 => ?_) (fun hc54 => ?_) (fun hc54 => ?_)
            · refine wk_if_ne (t := 62) (q := 58) dL_isAlike_55 rfl rfl (by omega) (fun _ => ?_) (fun hq => absurd hq (by decide))
              omega
            · refine wk_if_ne (t := 62) (q := 58) dL_isAlike_55 rfl rfl (by omega) (fun hq => absurd hq (by decide)) (fun _ => ?_)
              refine wk_iconst (q := 59) dL_isAlike_58 rfl ?_
              refine wk_goto (t := 63) dL_isAlike_59 rfl ?_
              refine wk_zret dL_isAlike_63 rfl (by omega) ⟨Nat.le_refl _, Nat.le_refl _⟩ rfl ?_
              refine ⟨_, _, _, _, rfl, rfl, rfl, rfl, rfl, ?_⟩
              rfl
            · refine wk_if_ne (t := 62) (q := 58) dL_isAlike_55 rfl rfl (by omega) (fun _ => ?_) (fun hq => absurd hq (by decide))
              omega
          · refine wk_if_ne (t := 62) (q := 48) dL_isAlike_45 rfl rfl (by omega) (fun _ => ?_) (fun hq => absurd hq (by decide))
            omega
        · refine wk_if_le (t := 62) (q := 38) dL_isAlike_35 rfl rfl (by omega) (fun _ => ?_) (fun hq => absurd hq (by decide))
          omega
        · refine wk_if_le (t := 62) (q := 38) dL_isAlike_35 rfl rfl (by omega) (fun _ => ?_) (fun hq => absurd hq (by decide))
          omega
      · refine wk_if_eq (t := 31) (q := 13) dL_isAlike_10 rfl rfl (by omega) (fun hq => absurd hq (by decide)) (fun _ => ?_)
        omega
    | succ N ih =>
      intro x y lo0 x0 x1 y0 y1 y2 hgc
      by_cases hy : y ≤ N
      · exact ih x y lo0 x0 x1 y0 hy y2 hgc
      · have m0 := Int.emod_nonneg x (by omega : y ≠ 0)
        have m1 := Int.emod_lt_of_pos x (by omega : 0 < y)
        have ih' := ih y (x % y) [] y0 y2 m0 (by omega) (by omega) ((gcdI_step' x0 (by omega)).trans hgc)
        refine wk_lload (i := 10) (q := 8) dL_isAlike_6 rfl rfl ?_
        refine wk_lconst (z := 0) (q := 9) dL_isAlike_8 rfl rfl ?_
        refine wk_lcmp (q := 10) dL_isAlike_9 rfl (by omega) (by omega) (fun hc9 => ?_) (fun hc9 => ?_) (fun hc9 => ?_)
        · refine wk_if_eq (t := 31) (q := 13) dL_isAlike_10 rfl rfl (by omega) (fun hq => absurd hq (by decide)) (fun _ => ?_)
          refine wk_lload (i := 8) (q := 15) dL_isAlike_13 rfl rfl ?_
          refine wk_lload (i := 10) (q := 17) dL_isAlike_15 rfl rfl ?_
          refine wk_lrem (q := 18) dL_isAlike_17 rfl (by omega) (by omega) ?_
          refine wk_lstore (i := 12) (lo' := [(0, _), (2, _), (4, _), (6, _), (8, _), (10, _), (12, _)]) (q := 20) dL_isAlike_18 rfl (by decide) rfl ?_
          refine wk_lload (i := 10) (q := 22) dL_isAlike_20 rfl rfl ?_
          refine wk_lstore (i := 8) (lo' := [(0, _), (2, _), (4, _), (6, _), (8, _), (10, _), (12, _)]) (q := 24) dL_isAlike_22 rfl (by decide) rfl ?_
          refine wk_lload (i := 12) (q := 26) dL_isAlike_24 rfl rfl ?_
          refine wk_lstore (i := 10) (lo' := [(0, _), (2, _), (4, _), (6, _), (8, _), (10, _), (12, _)]) (q := 28) dL_isAlike_26 rfl (by decide) rfl ?_
          refine wk_goto (t := 6) dL_isAlike_28 rfl ?_
          refine wk_del (i := 12) (lo' := [(0, _), (2, _), (4, _), (6, _), (8, _), (10, _)]) rfl ?_
          exact ih'
        · refine wk_if_eq (t := 31) (q := 13) dL_isAlike_10 rfl rfl (by omega) (fun _ => ?_) (fun hq => absurd hq (by decide))
          omega
        · refine wk_if_eq (t := 31) (q := 13) dL_isAlike_10 rfl rfl (by omega) (fun hq => absurd hq (by decide)) (fun _ => ?_)
          refine wk_lload (i := 8) (q := 15) dL_isAlike_13 rfl rfl ?_
          refine wk_lload (i := 10) (q := 17) dL_isAlike_15 rfl rfl ?_
          refine wk_lrem (q := 18) dL_isAlike_17 rfl (by omega) (by omega) ?_
          refine wk_lstore (i := 12) (lo' := [(0, _), (2, _), (4, _), (6, _), (8, _), (10, _), (12, _)]) (q := 20) dL_isAlike_18 rfl (by decide) rfl ?_
          refine wk_lload (i := 10) (q := 22) dL_isAlike_20 rfl rfl ?_
          refine wk_lstore (i := 8) (lo' := [(0, _), (2, _), (4, _), (6, _), (8, _), (10, _), (12, _)]) (q := 24) dL_isAlike_22 rfl (by decide) rfl ?_
          refine wk_lload (i := 12) (q := 26) dL_isAlike_24 rfl rfl ?_
          refine wk_lstore (i := 10) (lo' := [(0, _), (2, _), (4, _), (6, _), (8, _), (10, _), (12, _)]) (q := 28) dL_isAlike_26 rfl (by decide) rfl ?_
          refine wk_goto (t := 6) dL_isAlike_28 rfl ?_
          refine wk_del (i := 12) (lo' := [(0, _), (2, _), (4, _), (6, _), (8, _), (10, _)]) rfl ?_
          exact ih'
  have l0 := loop b.toNat a b [] ha.1 ha.2 (by omega) (by omega) hb.2 hG.symm
  refine Ct.of (lo := [(0, _), (2, _), (4, _), (6, _)]) ok_L_isAlike (Nat.le_of_ble_eq_true rfl) rfl ?_
  refine wk_lload_n (i := 0) (q := 1) dL_isAlike_0 rfl rfl rfl ?_
  refine wk_lstore (i := 8) (lo' := [(0, _), (2, _), (4, _), (6, _), (8, _)]) (q := 3) dL_isAlike_1 rfl (by decide) rfl ?_
  refine wk_lload_n (i := 2) (q := 4) dL_isAlike_3 rfl rfl rfl ?_
  refine wk_lstore (i := 10) (lo' := [(0, _), (2, _), (4, _), (6, _), (8, _), (10, _)]) (q := 6) dL_isAlike_4 rfl (by decide) rfl ?_
  exact l0
end SMALL
