/-! the class Table: what it writes -/
theorem isC.kd {b n : Nat} {sh : qSh} {a kd z kd' z' : Nat} (h : isC b n sh a kd z) (h' : isC b n sh a kd' z') : kd = kd' := by
  have := h.2.2.1.symm.trans h'.2.2.1
  exact (Prod.mk.inj this).1
theorem told_up {b n : Nat} {sh : qSh} {R : qR} {o t : Nat} {i : Int} {v : Nat} (h : qTold b n sh R o) (h0 : o ≠ t) (h6 : o + 6 ≠ t) : qTold b n sh (up R t i v) o := by
  refine ⟨h.1, h.2.1, fun p hp => ?_⟩
  have h1 := h.2.2 p hp
  have h2 : p.1 = 0 ∨ p.1 = 6 := by
    simp only [qTold_r, List.mem_cons, List.not_mem_nil, or_false] at hp
    rcases hp with rfl | rfl | rfl | rfl | rfl | rfl | rfl | rfl | rfl | rfl | rfl | rfl | rfl <;> first | exact Or.inl rfl | exact Or.inr rfl
  rw [up_na _ _ _ _ (by omega)]
  exact h1
/-- a table's reference to its text is written: no text's cells are -/
theorem told_upT {b n : Nat} {sh : qSh} {R : qR} {o t z : Nat} {i : Int} {v : Nat} (h : qTold b n sh R o) (ht : isC b n sh t 8 z) : qTold b n sh (up R t i v) o := by
  refine told_up h (fun e => ?_) (fun e => ?_)
  · subst e
    have := h.ob.kd ht
    omega
  · subst e
    have := h.s5.kd ht
    omega
theorem tabS_up {b n : Nat} {sh : qSh} {R : qR} {t t' z : Nat} {v : Nat} (h : qTabS b n sh R t) (ht : isC b n sh t' 8 z) : qTabS b n sh (up R t' 0 v) t := by
  refine ⟨h.1, h.2.1, fun p hp => ?_⟩
  have h1 := h.2.2 p hp
  have h2 : p.2.1 ≠ 0 ∨ isC b n sh (t + p.1) 2 7 ∨ isC b n sh (t + p.1) 2 8 := by
    have a1 := h.s4
    have a2 := h.s10
    simp only [qTabS_r, List.mem_cons, List.not_mem_nil, or_false] at hp
    rcases hp with rfl | rfl | rfl | rfl | rfl | rfl | rfl | rfl | rfl | rfl | rfl | rfl | rfl | rfl | rfl | rfl | rfl | rfl | rfl | rfl | rfl | rfl | rfl <;> first | exact Or.inl (by decide) | exact Or.inr (Or.inl a1) | exact Or.inr (Or.inr a2)
  rcases h2 with h2 | h2 | h2
  · rw [up_ni _ _ h2]
    exact h1
  · rw [up_na _ _ _ _ (fun e => by rw [e] at h2; have := h2.kd ht; omega)]
    exact h1
  · rw [up_na _ _ _ _ (fun e => by rw [e] at h2; have := h2.kd ht; omega)]
    exact h1
theorem tab_up {b n : Nat} {sh : qSh} {R : qR} {t o o' : Nat} (h : qTab b n sh R t o) (h' : qTold b n sh R o') : qTab b n sh (up R t 0 o') t o' :=
  ⟨tabS_up h.1 h.1.ob, ⟨up_eq _ _ _ _, by have := h'.1; omega⟩, told_upT h' h.1.ob⟩
theorem tab_upo {b n : Nat} {sh : qSh} {R : qR} {t t' o v z : Nat} (h : qTab b n sh R t o) (ht : isC b n sh t' 8 z) (hne : t ≠ t') : qTab b n sh (up R t' 0 v) t o :=
  ⟨tabS_up h.1 ht, ⟨by rw [up_na _ _ _ _ hne]; exact h.2.1.1, h.2.1.2⟩, told_upT h.2.2 ht⟩
section TABLE3
variable {l : Launch} {E : qEv} {n : Nat} {sh : qSh} {I L : qI} {R : qR}
theorem ct_X4_clearMemory {t o : Nat} (hT : qTab E.2.2 n sh R t o) :
    Ct l E 1 mX4_clearMemory [.ref t] (n, sh, I, L, R) 0 0 (qV n sh (fun I' L' R' => I' = fillI I (t + 17) 7 (-8) ∧ L' = L ∧ R' = R)) := by
  refine Ct.of (lo := [(0, _)]) ok_X4_clearMemory (Nat.le_of_ble_eq_true rfl) rfl ?_
  refine wk_aload_n (i := 0) (q := 1) dX4_clearMemory_0 rfl rfl rfl ?_
  refine wk_getR (fi := 3) (q := 4) dX4_clearMemory_1 rfl fl_X4_25 rfl rfl hT.1.ob hT.1.r3 ?_
  refine wk_bipush (q := 6) dX4_clearMemory_4 rfl (by decide +kernel) ?_
  refine wk_sV2 (q := 9) dX4_clearMemory_6 rfl sl_X4_74 (ct_fillI hT.1.s3) (qRo_m ok_J7_fill_53178 (by decide) (Nat.le_refl _) (Nat.le_refl _)) (Nat.le_of_ble_eq_true rfl) (fun I6 L6 R6 hv6 => ?_)
  obtain ⟨rfl, rfl, rfl⟩ := hv6
  refine wk_ret dX4_clearMemory_9 rfl ⟨Nat.le_refl _, Nat.le_refl _⟩ rfl ?_
  exact ⟨_, _, _, rfl, rfl, rfl, rfl, rfl⟩
/-- one table becomes as another one -/
def becP (I I' : qI) (t t2 : Nat) (ng : Int) : Prop := (∀ b i, ¬ (b = t ∧ 5 ≤ i ∧ i ≤ 8) → ¬ (t + 15 ≤ b ∧ b ≤ t + 17) → ¬ (t + 19 ≤ b ∧ b < t + 26) → I' b i = I b i) ∧ I' t 5 = I t2 5 ∧ I' t 6 = I t2 6 ∧ I' t 7 = I t2 7 ∧ I' t 8 = I t2 8 ∧ (∀ i, 0 ≤ i → i < 7 → I' (t + 15) i = I (t2 + 15) i ∧ I' (t + 16) i = I (t2 + 16) i ∧ I' (t + 17) i = I (t2 + 17) i) ∧ ∀ g, 0 ≤ g → g < ng → ∀ d, 0 ≤ d → d < 6 → I' (t + 19 + g.toNat) d = I (t2 + 19 + g.toNat) d
theorem cpI_in {I : qI} {a b : Nat} {i j m x : Int} (h : j ≤ x ∧ x < j + m) : cpI I a b i j m b x = I a (i + (x - j)) := if_pos ⟨rfl, h⟩
theorem cpI_ne {I : qI} {a b c : Nat} {i j m x : Int} (h : c ≠ b) : cpI I a b i j m c x = I c x := if_neg (fun q => h q.1)
theorem ct_X4_become {t t2 o o2 : Nat} {ng : Int} (hT : qTab E.2.2 n sh R t o) (hT2 : qTab E.2.2 n sh R t2 o2) (hdis : t2 + 38 ≤ t) (hot : o2 + 14 ≤ t) (hng : I o2 7 = ng) (hng2 : 0 ≤ ng ∧ ng ≤ 7) :
    Ct l E 1 mX4_become [.ref t, .ref t2] (n, sh, I, L, R) 0 0 (qV n sh (fun I' L' R' => L' = L ∧ R' = up R t 0 o2 ∧ becP I I' t t2 ng)) := by
  have hTn := tab_up hT hT2.2.2
  have hT2n : qTab E.2.2 n sh (up R t 0 o2) t2 o2 := tab_upo hT2 hT.1.ob (by omega)
  have loop : ∀ k : Nat, k ≤ ng.toNat → ∀ I1 : qI, ((∀ b i, ¬ (b = t ∧ 5 ≤ i ∧ i ≤ 8) → ¬ (t + 15 ≤ b ∧ b ≤ t + 17) → ¬ (t + 19 ≤ b ∧ b < t + 26) → I1 b i = I b i) ∧ I1 t 5 = I t2 5 ∧ I1 t 6 = I t2 6 ∧ I1 t 7 = I t2 7 ∧ I1 t 8 = I t2 8 ∧ (∀ i, 0 ≤ i → i < 7 → I1 (t + 15) i = I (t2 + 15) i ∧ I1 (t + 16) i = I (t2 + 16) i ∧ I1 (t + 17) i = I (t2 + 17) i) ∧ ∀ g : Int, 0 ≤ g → g < k → ∀ d, 0 ≤ d → d < 6 → I1 (t + 19 + g.toNat) d = I (t2 + 19 + g.toNat) d) →
      Wk l E (qmo E 1 n 0 0 (qV n sh (fun I' L' R' => L' = L ∧ R' = up R t 0 o2 ∧ becP I I' t t2 ng))) mX4_become 0 0 87 [(0, .ref t), (1, .ref t2), (2, .int (zI (k : Int)))] [] (n, sh, I1, L, up R t 0 o2) := by
    refine up_ind ng.toNat ?_ ?_
    · rintro I1 ⟨f1, f2, f3, f4, f5, f6, f7⟩
      have e0 : I1 o2 7 = ng := by rw [f1 _ _ (by omega) (by omega) (by omega)]; exact hng
      refine wk_iload_n (i := 2) (q := 88) dX4_become_87 rfl rfl rfl ?_
      refine wk_aload_n (i := 0) (q := 89) dX4_become_88 rfl rfl rfl ?_
      refine wk_getR (fi := 0) (q := 92) dX4_become_89 rfl fl_X4_12 rfl rfl hTn.1.ob hTn.2.1 ?_
      refine wk_getI (fi := 7) (q := 95) dX4_become_92 rfl fl_X4_49 rfl rfl hTn.2.2.ob ?_
      refine wk_icmp_ge (t := 123) (q := 98) dX4_become_95 rfl rfl (by omega) (by omega) (fun hc95 => ?_) (fun hc95 => ?_)
      · refine wk_ret dX4_become_123 rfl ⟨Nat.le_refl _, Nat.le_refl _⟩ rfl ?_
        exact ⟨_, _, _, rfl, rfl, rfl, rfl, f1, f2, f3, f4, f5, f6, fun g g0 g1 d d0 d1 => f7 g g0 (by omega) d d0 d1⟩
      · omega
    · rintro k hk ih I1 ⟨f1, f2, f3, f4, f5, f6, f7⟩
      have e0 : I1 o2 7 = ng := by rw [f1 _ _ (by omega) (by omega) (by omega)]; exact hng
      refine wk_iload_n (i := 2) (q := 88) dX4_become_87 rfl rfl rfl ?_
      refine wk_aload_n (i := 0) (q := 89) dX4_become_88 rfl rfl rfl ?_
      refine wk_getR (fi := 0) (q := 92) dX4_become_89 rfl fl_X4_12 rfl rfl hTn.1.ob hTn.2.1 ?_
      refine wk_getI (fi := 7) (q := 95) dX4_become_92 rfl fl_X4_49 rfl rfl hTn.2.2.ob ?_
      refine wk_icmp_ge (t := 123) (q := 98) dX4_become_95 rfl rfl (by omega) (by omega) (fun hc95 => ?_) (fun hc95 => ?_)
      · omega
      · refine wk_aload_n (i := 1) (q := 99) dX4_become_98 rfl rfl rfl ?_
        refine wk_getR (fi := 4) (q := 102) dX4_become_99 rfl fl_X4_30 rfl rfl hT2n.1.ob hT2n.1.r4 ?_
        refine wk_iload_n (i := 2) (q := 103) dX4_become_102 rfl rfl rfl ?_
        refine wk_aald2 (q := 104) dX4_become_103 rfl hT2n.1.s4 (by omega) (hT2n.1.w4 (by omega)) ?_
        refine wk_iconst (q := 105) dX4_become_104 rfl ?_
        refine wk_aload_n (i := 0) (q := 106) dX4_become_105 rfl rfl rfl ?_
        refine wk_getR (fi := 4) (q := 109) dX4_become_106 rfl fl_X4_30 rfl rfl hTn.1.ob hTn.1.r4 ?_
        refine wk_iload_n (i := 2) (q := 110) dX4_become_109 rfl rfl rfl ?_
        refine wk_aald2 (q := 111) dX4_become_110 rfl hTn.1.s4 (by omega) (hTn.1.w4 (by omega)) ?_
        refine wk_iconst (q := 112) dX4_become_111 rfl ?_
        refine wk_bipush (q := 114) dX4_become_112 rfl (by decide +kernel) ?_
        refine wk_copy (q := 117) dX4_become_114 rfl w_ac_4 (hT2n.1.v4 (by omega)) (hTn.1.v4 (by omega)) (by omega) (by omega) (by omega) (Nat.le_of_ble_eq_true rfl) (Nat.le_of_ble_eq_true rfl) ?_
        refine wk_iinc (lo' := [(0, _), (1, _), (2, _)]) (q := 120) dX4_become_117 rfl rfl (by decide) rfl ?_
        refine wk_goto (t := 87) dX4_become_120 rfl ?_
        refine ih _ ⟨fun b i p0 p1 p2 => by rw [cpI_ne (by omega)]; exact f1 b i p0 p1 p2, by rw [cpI_ne (by omega)]; exact f2, by rw [cpI_ne (by omega)]; exact f3, by rw [cpI_ne (by omega)]; exact f4, by rw [cpI_ne (by omega)]; exact f5, fun i i0 i1 => by rw [cpI_ne (by omega), cpI_ne (by omega), cpI_ne (by omega)]; exact f6 i i0 i1, fun g g0 g1 d d0 d1 => ?_⟩
        by_cases hq : g = k
        · rw [hq, cpI_in (by omega), show (0 : Int) + (d - 0) = d by omega]
          exact f1 _ _ (by omega) (by omega) (by omega)
        · rw [cpI_ne (by omega)]
          exact f7 g g0 (by omega) d d0 d1
  refine Ct.of (lo := [(0, _), (1, _)]) ok_X4_become (Nat.le_of_ble_eq_true rfl) rfl ?_
  refine wk_aload_n (i := 0) (q := 1) dX4_become_0 rfl rfl rfl ?_
  refine wk_aload_n (i := 1) (q := 2) dX4_become_1 rfl rfl rfl ?_
  refine wk_getR (fi := 0) (q := 5) dX4_become_2 rfl fl_X4_12 rfl rfl hT2.1.ob hT2.2.1 ?_
  refine wk_putR (fi := 0) (q := 8) dX4_become_5 rfl fl_X4_12 fw_4_0 rfl (by have := hT2.2.2.1; omega) rfl hT.1.ob ?_
  skip
  refine wk_aload_n (i := 0) (q := 9) dX4_become_8 rfl rfl rfl ?_
  refine wk_aload_n (i := 1) (q := 10) dX4_become_9 rfl rfl rfl ?_
  refine wk_getI (fi := 5) (q := 13) dX4_become_10 rfl fl_X4_52 rfl rfl hT2n.1.ob ?_
  refine wk_putI (fi := 5) (q := 16) dX4_become_13 rfl fl_X4_52 fw_4_5 rfl rfl hTn.1.ob ?_
  refine wk_aload_n (i := 0) (q := 17) dX4_become_16 rfl rfl rfl ?_
  refine wk_aload_n (i := 1) (q := 18) dX4_become_17 rfl rfl rfl ?_
  refine wk_getI (fi := 6) (q := 21) dX4_become_18 rfl fl_X4_55 rfl rfl hT2n.1.ob ?_
  refine wk_putI (fi := 6) (q := 24) dX4_become_21 rfl fl_X4_55 fw_4_6 rfl rfl hTn.1.ob ?_
  refine wk_aload_n (i := 0) (q := 25) dX4_become_24 rfl rfl rfl ?_
  refine wk_aload_n (i := 1) (q := 26) dX4_become_25 rfl rfl rfl ?_
  refine wk_getI (fi := 7) (q := 29) dX4_become_26 rfl fl_X4_58 rfl rfl hT2n.1.ob ?_
  refine wk_putI (fi := 7) (q := 32) dX4_become_29 rfl fl_X4_58 fw_4_7 rfl rfl hTn.1.ob ?_
  refine wk_aload_n (i := 0) (q := 33) dX4_become_32 rfl rfl rfl ?_
  refine wk_aload_n (i := 1) (q := 34) dX4_become_33 rfl rfl rfl ?_
  refine wk_getI (fi := 8) (q := 37) dX4_become_34 rfl fl_X4_33 rfl rfl hT2n.1.ob ?_
  refine wk_putI (fi := 8) (q := 40) dX4_become_37 rfl fl_X4_33 fw_4_8 rfl rfl hTn.1.ob ?_
  rw [show (up (up (up (up I t 5 (I t2 5)) t 6 _) t 7 _) t 8 _) = (up (up (up (up I t 5 (I t2 5)) t 6 (I t2 6)) t 7 (I t2 7)) t 8 (I t2 8)) by rw [up_na _ _ _ _ (by omega), up_na _ _ _ _ (by omega), up_na _ _ _ _ (by omega), up_na _ _ _ _ (by omega), up_na _ _ _ _ (by omega), up_na _ _ _ _ (by omega)]]
  refine wk_aload_n (i := 1) (q := 41) dX4_become_40 rfl rfl rfl ?_
  refine wk_getR (fi := 1) (q := 44) dX4_become_41 rfl fl_X4_18 rfl rfl hT2n.1.ob hT2n.1.r1 ?_
  refine wk_iconst (q := 45) dX4_become_44 rfl ?_
  refine wk_aload_n (i := 0) (q := 46) dX4_become_45 rfl rfl rfl ?_
  refine wk_getR (fi := 1) (q := 49) dX4_become_46 rfl fl_X4_18 rfl rfl hTn.1.ob hTn.1.r1 ?_
  refine wk_iconst (q := 50) dX4_become_49 rfl ?_
  refine wk_bipush (q := 52) dX4_become_50 rfl (by decide +kernel) ?_
  refine wk_copy (q := 55) dX4_become_52 rfl w_ac_4 hT2n.1.s1 hTn.1.s1 (by omega) (by omega) (by omega) (Nat.le_of_ble_eq_true rfl) (Nat.le_of_ble_eq_true rfl) ?_
  refine wk_aload_n (i := 1) (q := 56) dX4_become_55 rfl rfl rfl ?_
  refine wk_getR (fi := 2) (q := 59) dX4_become_56 rfl fl_X4_22 rfl rfl hT2n.1.ob hT2n.1.r2 ?_
  refine wk_iconst (q := 60) dX4_become_59 rfl ?_
  refine wk_aload_n (i := 0) (q := 61) dX4_become_60 rfl rfl rfl ?_
  refine wk_getR (fi := 2) (q := 64) dX4_become_61 rfl fl_X4_22 rfl rfl hTn.1.ob hTn.1.r2 ?_
  refine wk_iconst (q := 65) dX4_become_64 rfl ?_
  refine wk_bipush (q := 67) dX4_become_65 rfl (by decide +kernel) ?_
  refine wk_copy (q := 70) dX4_become_67 rfl w_ac_4 hT2n.1.s2 hTn.1.s2 (by omega) (by omega) (by omega) (Nat.le_of_ble_eq_true rfl) (Nat.le_of_ble_eq_true rfl) ?_
  refine wk_aload_n (i := 1) (q := 71) dX4_become_70 rfl rfl rfl ?_
  refine wk_getR (fi := 3) (q := 74) dX4_become_71 rfl fl_X4_25 rfl rfl hT2n.1.ob hT2n.1.r3 ?_
  refine wk_iconst (q := 75) dX4_become_74 rfl ?_
  refine wk_aload_n (i := 0) (q := 76) dX4_become_75 rfl rfl rfl ?_
  refine wk_getR (fi := 3) (q := 79) dX4_become_76 rfl fl_X4_25 rfl rfl hTn.1.ob hTn.1.r3 ?_
  refine wk_iconst (q := 80) dX4_become_79 rfl ?_
  refine wk_bipush (q := 82) dX4_become_80 rfl (by decide +kernel) ?_
  refine wk_copy (q := 85) dX4_become_82 rfl w_ac_4 hT2n.1.s3 hTn.1.s3 (by omega) (by omega) (by omega) (Nat.le_of_ble_eq_true rfl) (Nat.le_of_ble_eq_true rfl) ?_
  refine wk_iconst (q := 86) dX4_become_85 rfl ?_
  refine wk_istore_n (i := 2) (lo' := [(0, _), (1, _), (2, _)]) (q := 87) dX4_become_86 rfl rfl (by decide) rfl ?_
  refine loop 0 (Nat.zero_le _) _ ⟨fun b i p0 p1 p2 => ?_, ?_, ?_, ?_, ?_, fun i i0 i1 => ⟨?_, ?_, ?_⟩, fun g g0 g1 => by omega⟩
  · rw [cpI_ne (by omega), cpI_ne (by omega), cpI_ne (by omega)]
    by_cases hb : b = t
    · subst hb
      rw [up_ni _ _ (by omega), up_ni _ _ (by omega), up_ni _ _ (by omega), up_ni _ _ (by omega)]
    · rw [up_na _ _ _ _ hb, up_na _ _ _ _ hb, up_na _ _ _ _ hb, up_na _ _ _ _ hb]
  · rw [cpI_ne (by omega), cpI_ne (by omega), cpI_ne (by omega), up_ni _ _ (by omega), up_ni _ _ (by omega), up_ni _ _ (by omega), up_eq]
  · rw [cpI_ne (by omega), cpI_ne (by omega), cpI_ne (by omega), up_ni _ _ (by omega), up_ni _ _ (by omega), up_eq]
  · rw [cpI_ne (by omega), cpI_ne (by omega), cpI_ne (by omega), up_ni _ _ (by omega), up_eq]
  · rw [cpI_ne (by omega), cpI_ne (by omega), cpI_ne (by omega), up_eq]
  · rw [cpI_ne (by omega), cpI_ne (by omega), cpI_in (by omega), up_na _ _ _ _ (by omega), up_na _ _ _ _ (by omega), up_na _ _ _ _ (by omega), up_na _ _ _ _ (by omega), show (0 : Int) + (i - 0) = i by omega]
  · rw [cpI_ne (by omega), cpI_in (by omega), cpI_ne (by omega), up_na _ _ _ _ (by omega), up_na _ _ _ _ (by omega), up_na _ _ _ _ (by omega), up_na _ _ _ _ (by omega), show (0 : Int) + (i - 0) = i by omega]
  · rw [cpI_in (by omega), cpI_ne (by omega), cpI_ne (by omega), up_na _ _ _ _ (by omega), up_na _ _ _ _ (by omega), up_na _ _ _ _ (by omega), up_na _ _ _ _ (by omega), show (0 : Int) + (i - 0) = i by omega]
end TABLE3
