/-! BEST, the class: weights, gains, servings -/
theorem serS {n : Nat} {G M : Int → Int} {S : Nat} : ∀ {M' : Int → Int}, serP n G M M' → S < 2 ^ n → M S ≤ M' S := fun h hS => (h S hS).1
def serG (k : Nat) (G M : Int → Int) (S : Nat) (v : Int) : Prop := M S ≤ v ∧ (∀ g : Nat, g < k → S.testBit g = true → 0 ≤ G g → 0 ≤ M (wout S g : Nat) → M (wout S g : Nat) + G g ≤ v) ∧ (v = M S ∨ ∃ g : Nat, g < k ∧ S.testBit g = true ∧ 0 ≤ G g ∧ 0 ≤ M (wout S g : Nat) ∧ v = M (wout S g : Nat) + G g)
theorem serG_0 {G M : Int → Int} {S : Nat} : serG 0 G M S (M S) := ⟨Int.le_refl _, fun g hg => absurd hg (by omega), Or.inl rfl⟩
theorem serG_s {k : Nat} {G M : Int → Int} {S : Nat} {v v' : Int} (h : serG k G M S v) (h1 : v ≤ v') (h2 : S.testBit k = true → 0 ≤ G k → 0 ≤ M (wout S k : Nat) → M (wout S k : Nat) + G k ≤ v') (h3 : v' = v ∨ (S.testBit k = true ∧ 0 ≤ G k ∧ 0 ≤ M (wout S k : Nat) ∧ v' = M (wout S k : Nat) + G k)) : serG (k + 1) G M S v' := by
  refine ⟨Int.le_trans h.1 h1, fun g hg a b c => ?_, ?_⟩
  · by_cases e : g = k
    · subst e
      exact h2 a b c
    · exact Int.le_trans (h.2.1 g (by omega) a b c) h1
  · rcases h3 with q | q
    · rcases h.2.2 with z | ⟨g, g1, g2⟩
      · exact Or.inl (q.trans z)
      · exact Or.inr ⟨g, by omega, by rw [q]; exact g2⟩
    · exact Or.inr ⟨k, by omega, q⟩
theorem tb_z {G M : Int → Int} {N : Nat} (h : ∀ g : Nat, g < N → (0 : Nat).testBit g = false) : serG N G M 0 (M 0) := ⟨Int.le_refl _, (fun g hg a => by rw [h g hg] at a; cases a), Or.inl rfl⟩
section BEST2
variable {l : Launch} {E : qEv} {n : Nat} {sh : qSh} {I L : qI} {R : qR}
theorem ct_X0_unit {g : Int} (hg : 0 ≤ g ∧ g < 7) :
    Ct l E 0 mX0_unit [.int (zI g)] (n, sh, I, L, R) 0 0 (qJ n sh (fun v I' L' R' => v = p10 g.toNat ∧ I' = I ∧ L' = L ∧ R' = R)) := by
  have loop : ∀ k : Nat, k ≤ 6 → g.toNat ≤ k → ∀ u : Int, u * p10 k = p10 g.toNat → Wk l E (qmo E 0 n 0 0 (qJ n sh (fun v I' L' R' => v = p10 g.toNat ∧ I' = I ∧ L' = L ∧ R' = R))) mX0_unit 0 0 4
      [(0, .int (zI g)), (1, .long (zL u)), (3, .int (zI (k : Int)))] [] (n, sh, I, L, R) := by
    refine up_ind 6 ?_ ?_
    · intro hk u hu
      refine wk_iload_n (i := 3) (q := 5) dX0_unit_4 rfl rfl rfl ?_
      refine wk_bipush (q := 7) dX0_unit_5 rfl (by decide +kernel) ?_
      refine wk_icmp_ge (t := 22) (q := 10) dX0_unit_7 rfl rfl (by omega) (by omega) (fun hc7 => ?_) (fun hc7 => ?_)
      · refine wk_lload_n (i := 1) (q := 23) dX0_unit_22 rfl rfl rfl ?_
        refine wk_lret dX0_unit_23 rfl ⟨Nat.le_refl _, Nat.le_refl _⟩ rfl ?_
        refine ⟨_, _, _, _, rfl, rfl, ?_, rfl, rfl, rfl⟩
        rw [← hu, show p10 6 = 1 by decide]
        omega
      · omega
    · intro k hk ih hgk u hu
      refine wk_iload_n (i := 3) (q := 5) dX0_unit_4 rfl rfl rfl ?_
      refine wk_bipush (q := 7) dX0_unit_5 rfl (by decide +kernel) ?_
      refine wk_icmp_ge (t := 22) (q := 10) dX0_unit_7 rfl rfl (by omega) (by omega) (fun hc7 => ?_) (fun hc7 => ?_)
      · omega
      · refine wk_lload_n (i := 1) (q := 11) dX0_unit_10 rfl rfl rfl ?_
        refine wk_ldc2 (z := 10) (q := 14) dX0_unit_11 rfl (v := 10) (qtb_in 601 (by decide +kernel) (by decide +kernel)) rfl ?_
        refine wk_lmul (q := 15) dX0_unit_14 rfl ?_
        refine wk_lstore_n (i := 1) (lo' := [(0, _), (1, _), (3, _)]) (q := 16) dX0_unit_15 rfl rfl (by decide) rfl ?_
        refine wk_iinc (lo' := [(0, _), (1, _), (3, _)]) (q := 19) dX0_unit_16 rfl rfl (by decide) rfl ?_
        refine wk_goto (t := 4) dX0_unit_19 rfl ?_
        exact ih (by omega) (u * 10) (by rw [Int.mul_assoc, ← p10_s hk]; exact hu)
  refine Ct.of (lo := [(0, _)]) ok_X0_unit (Nat.le_of_ble_eq_true rfl) rfl ?_
  obtain ⟨gn, rfl⟩ := Int.eq_ofNat_of_zero_le hg.1
  refine wk_lconst (z := 1) (q := 1) dX0_unit_0 rfl rfl ?_
  refine wk_lstore_n (i := 1) (lo' := [(0, _), (1, _)]) (q := 2) dX0_unit_1 rfl rfl (by decide) rfl ?_
  refine wk_iload_n (i := 0) (q := 3) dX0_unit_2 rfl rfl rfl ?_
  refine wk_istore_n (i := 3) (lo' := [(0, _), (1, _), (3, _)]) (q := 4) dX0_unit_3 rfl rfl (by decide) rfl ?_
  exact loop gn (by omega) (by omega) 1 (by rw [Int.one_mul]; rfl)
theorem ct_X0_weigh {b t o : Nat} {T : TT} {C : CC} (hB : qBest E.2.2 n sh R b) (hT : qTab E.2.2 n sh R t o) (hd : o + 14 ≤ t ∧ t + 38 ≤ b) (hok : T.ok) (hC : C.now T) (hsT : shT I o T) (hsC : shC I t T C) :
    Ct l E 1 mX0_weigh [.ref b, .ref t] (n, sh, I, L, R) 0 0 (qV n sh (fun I' L' R' => (∀ c i, c ≠ b + 3 → I' c i = I c i) ∧ L' = L ∧ R' = R ∧ isWt T C (I' (b + 3)))) := by
  have hng := hok.2.1
  have hng0 := hok.1
  have hse := hC.2.1
  have hst := hC.1.2.2.1
  have hst2 := hC.1.2.2.2.1
  have loop : ∀ k : Nat, k ≤ T.ng.toNat → ∀ I1 : qI, (∀ c i, c ≠ b + 3 → I1 c i = I c i) → (∀ s : Int, 0 ≤ s → s < k → I1 (b + 3) (tgt C s) = 10 + T.kn (C.od s)) → Wk l E (qmo E 1 n 0 0 (qV n sh (fun I' L' R' => (∀ c i, c ≠ b + 3 → I' c i = I c i) ∧ L' = L ∧ R' = R ∧ isWt T C (I' (b + 3))))) mX0_weigh 0 0 2
      [(0, .ref b), (1, .ref t), (2, .int (zI (k : Int)))] [] (n, sh, I1, L, R) := by
    refine up_ind T.ng.toNat ?_ ?_
    · intro I1 f1 f2
      have e5 : I1 t 5 = C.se := by rw [f1 _ _ (by omega)]; exact hsC.1
      refine wk_iload_n (i := 2) (q := 3) dX0_weigh_2 rfl rfl rfl ?_
      refine wk_aload_n (i := 1) (q := 4) dX0_weigh_3 rfl rfl rfl ?_
      refine wk_getI (fi := 5) (q := 7) dX0_weigh_4 rfl fl_X0_86 rfl rfl hT.1.ob ?_
      refine wk_icmp_ge (t := 43) (q := 10) dX0_weigh_7 rfl rfl (by omega) (by omega) (fun hc7 => ?_) (fun hc7 => ?_)
      · refine wk_ret dX0_weigh_43 rfl ⟨Nat.le_refl _, Nat.le_refl _⟩ rfl ?_
        exact ⟨_, _, _, rfl, rfl, f1, rfl, rfl, fun s s0 s1 => f2 s s0 (by omega)⟩
      · omega
    · intro k hk ih I1 f1 f2
      have e5 : I1 t 5 = C.se := by rw [f1 _ _ (by omega)]; exact hsC.1
      have e6 : I1 t 6 = C.st := by rw [f1 _ _ (by omega)]; exact hsC.2.1
      have hs : shC I1 t T C := hsC.cg hng (fun c i _ => f1 c i (by omega))
      have hs2 : shT I1 o T := hsT.cg hng (fun c i _ _ => f1 c i (by omega))
      have ho : I1 (t + 15) (k : Int) = C.od k := hs.2.2.2.1 k (by omega) (by omega)
      have hod := od_in hC.1 (s := (k : Int)) (by omega) (by omega)
      have hkn := (hs2.2.2.2 (C.od k) hod.1 hod.2).2.1
      have ht := tgt_in hC.1 (k : Int)
      refine wk_iload_n (i := 2) (q := 3) dX0_weigh_2 rfl rfl rfl ?_
      refine wk_aload_n (i := 1) (q := 4) dX0_weigh_3 rfl rfl rfl ?_
      refine wk_getI (fi := 5) (q := 7) dX0_weigh_4 rfl fl_X0_86 rfl rfl hT.1.ob ?_
      refine wk_icmp_ge (t := 43) (q := 10) dX0_weigh_7 rfl rfl (by omega) (by omega) (fun hc7 => ?_) (fun hc7 => ?_)
      · omega
      · refine wk_aload_n (i := 0) (q := 11) dX0_weigh_10 rfl rfl rfl ?_
        refine wk_getR (fi := 3) (q := 14) dX0_weigh_11 rfl fl_X0_18 rfl rfl hB.ob hB.r3 ?_
        refine wk_aload_n (i := 1) (q := 15) dX0_weigh_14 rfl rfl rfl ?_
        refine wk_iload_n (i := 2) (q := 16) dX0_weigh_15 rfl rfl rfl ?_
        refine wk_cP1 (q := 19) dX0_weigh_16 rfl vl_X0_89 ⟨_, _, rfl⟩ hT.1.ob (ct_X4_askedFor hT (by omega) (by omega) (by omega)) (qRo_m ok_X4_askedFor (by decide) (Nat.le_refl _) (Nat.le_refl _)) (Nat.le_of_ble_eq_true rfl) (fun v16 hv16 => ?_)
        have hv : v16 = tgt C (k : Int) := by
          rw [hv16, e5, e6]
          exact hs.2.2.2.1 _ (Int.emod_nonneg _ (by omega)) (Int.emod_lt_of_pos _ (by omega))
        subst hv
        refine wk_bipush (q := 21) dX0_weigh_19 rfl (by decide +kernel) ?_
        refine wk_aload_n (i := 1) (q := 22) dX0_weigh_21 rfl rfl rfl ?_
        refine wk_getR (fi := 0) (q := 25) dX0_weigh_22 rfl fl_X0_34 rfl rfl hT.1.ob hT.2.1 ?_
        refine wk_getR (fi := 3) (q := 28) dX0_weigh_25 rfl fl_X0_93 rfl rfl hT.2.2.ob hT.2.2.r3 ?_
        refine wk_aload_n (i := 1) (q := 29) dX0_weigh_28 rfl rfl rfl ?_
        refine wk_getR (fi := 1) (q := 32) dX0_weigh_29 rfl fl_X0_96 rfl rfl hT.1.ob hT.1.r1 ?_
        refine wk_iload_n (i := 2) (q := 33) dX0_weigh_32 rfl rfl rfl ?_
        refine wk_iald (q := 34) dX0_weigh_33 rfl hT.1.s1 (by omega) ?_
        refine wk_iald (q := 35) dX0_weigh_34 rfl hT.2.2.s3 (by omega) ?_
        refine wk_iadd (q := 36) dX0_weigh_35 rfl ?_
        refine wk_iast (q := 37) dX0_weigh_36 rfl hB.s3 (by omega) ?_
        refine wk_iinc (lo' := [(0, _), (1, _), (2, _)]) (q := 40) dX0_weigh_37 rfl rfl (by decide) rfl ?_
        refine wk_goto (t := 2) dX0_weigh_40 rfl ?_
        refine ih _ (fun c i q => ?_) (fun s s0 s1 => ?_)
        · rw [up_na _ _ _ _ q]
          exact f1 c i q
        · by_cases e : s = (k : Int)
          · subst e
            rw [up_eq, ho, hkn]
          · rw [up_ni _ _ (fun q => e (tgt_inj hok hC.1 ⟨s0, by omega⟩ ⟨by omega, by omega⟩ q))]
            exact f2 s s0 (by omega)
  refine Ct.of (lo := [(0, _), (1, _)]) ok_X0_weigh (Nat.le_of_ble_eq_true rfl) rfl ?_
  refine wk_iconst (q := 1) dX0_weigh_0 rfl ?_
  refine wk_istore_n (i := 2) (lo' := [(0, _), (1, _), (2, _)]) (q := 2) dX0_weigh_1 rfl rfl (by decide) rfl ?_
  exact loop 0 (Nat.zero_le _) I (fun _ _ _ => rfl) (fun s s0 s1 => by omega)
theorem ct_X0_reckonGains {b o : Nat} {T : TT} {d : Int} (hB : qBest E.2.2 n sh R b) (hO : qTold E.2.2 n sh R o) (hok : T.ok) (hsT : shT I o T) (hw : wtok T (I (b + 3))) (hd : 0 ≤ d ∧ d < T.nd) :
    Ct l E 1 mX0_reckonGains [.ref b, .ref o, .int (zI d)] (n, sh, I, L, R) 0 0 (qV n sh (fun I' L' R' => I' = I ∧ R' = R ∧ (∀ c i, c ≠ b + 2 → L' c i = L c i) ∧ ∀ g : Nat, (g : Int) < T.ng → L' (b + 2) g = gainF T (I (b + 3)) d g)) := by
  have hng := hok.2.1
  have hng0 := hok.1
  have hnd := hok.2.2.2.1
  have e7 := hsT.2.1
  have loop : ∀ k : Nat, k ≤ T.ng.toNat → ∀ L1 : qI, (∀ c i, c ≠ b + 2 → L1 c i = L c i) → (∀ g : Nat, g < k → L1 (b + 2) g = gainF T (I (b + 3)) d g) → Wk l E (qmo E 1 n 0 0 (qV n sh (fun I' L' R' => I' = I ∧ R' = R ∧ (∀ c i, c ≠ b + 2 → L' c i = L c i) ∧ ∀ g : Nat, (g : Int) < T.ng → L' (b + 2) g = gainF T (I (b + 3)) d g))) mX0_reckonGains 0 0 2
      [(0, .ref b), (1, .ref o), (2, .int (zI d)), (3, .int (zI (k : Int)))] [] (n, sh, I, L1, R) := by
    refine up_ind T.ng.toNat ?_ ?_
    · intro L1 f1 f2
      refine wk_iload_n (i := 3) (q := 3) dX0_reckonGains_2 rfl rfl rfl ?_
      refine wk_aload_n (i := 1) (q := 4) dX0_reckonGains_3 rfl rfl rfl ?_
      refine wk_getI (fi := 7) (q := 7) dX0_reckonGains_4 rfl fl_X0_53 rfl rfl hO.ob ?_
      refine wk_icmp_ge (t := 72) (q := 10) dX0_reckonGains_7 rfl rfl (by omega) (by omega) (fun hc7 => ?_) (fun hc7 => ?_)
      · refine wk_ret dX0_reckonGains_72 rfl ⟨Nat.le_refl _, Nat.le_refl _⟩ rfl ?_
        exact ⟨_, _, _, rfl, rfl, rfl, rfl, f1, fun g hg => f2 g (by omega)⟩
      · omega
    · intro k hk ih L1 f1 f2
      have hwk := hw k (by omega)
      have eo : I (o + 7 + ((k : Nat) : Int).toNat) d = T.wo k d := (hsT.2.2.2 k (by omega) (by omega)).2.2.2 d hd.1 hd.2
      have ob := (hok.2.2.2.2.2 k (by omega) (by omega)).2.2.2.2.2.2 d hd.1 hd.2
      have hp : in32 (I (b + 3) (k : Int) * I (o + 7 + ((k : Nat) : Int).toNat) d) := by
        rw [eo]
        by_cases q : T.wo k d = -1
        · rw [q]
          omega
        · have := mul_in (A := 19) (B := 9) (show 0 ≤ I (b + 3) (k : Int) ∧ I (b + 3) (k : Int) ≤ 19 by omega) (show 0 ≤ T.wo k d ∧ T.wo k d ≤ 9 by omega)
          omega
      have fin : ∀ v : Int, v = gainF T (I (b + 3)) d k → (∀ c i, c ≠ b + 2 → up L1 (b + 2) (k : Int) v c i = L c i) ∧ (∀ g : Nat, g < k + 1 → up L1 (b + 2) (k : Int) v (b + 2) g = gainF T (I (b + 3)) d g) := fun v hv => by
        refine ⟨fun c i q => by rw [up_na _ _ _ _ q]; exact f1 c i q, fun g hg => ?_⟩
        by_cases e : g = k
        · subst e
          rw [up_eq]
          exact hv
        · rw [up_ni _ _ (by omega)]
          exact f2 g (by omega)
      refine wk_iload_n (i := 3) (q := 3) dX0_reckonGains_2 rfl rfl rfl ?_
      refine wk_aload_n (i := 1) (q := 4) dX0_reckonGains_3 rfl rfl rfl ?_
      refine wk_getI (fi := 7) (q := 7) dX0_reckonGains_4 rfl fl_X0_53 rfl rfl hO.ob ?_
      refine wk_icmp_ge (t := 72) (q := 10) dX0_reckonGains_7 rfl rfl (by omega) (by omega) (fun hc7 => ?_) (fun hc7 => ?_)
      · omega
      · refine wk_aload_n (i := 0) (q := 11) dX0_reckonGains_10 rfl rfl rfl ?_
        refine wk_getR (fi := 3) (q := 14) dX0_reckonGains_11 rfl fl_X0_18 rfl rfl hB.ob hB.r3 ?_
        refine wk_iload_n (i := 3) (q := 15) dX0_reckonGains_14 rfl rfl rfl ?_
        refine wk_iald (q := 16) dX0_reckonGains_15 rfl hB.s3 (by omega) ?_
        refine wk_aload_n (i := 1) (q := 17) dX0_reckonGains_16 rfl rfl rfl ?_
        refine wk_getR (fi := 5) (q := 20) dX0_reckonGains_17 rfl fl_X0_99 rfl rfl hO.ob hO.r5 ?_
        refine wk_iload_n (i := 3) (q := 21) dX0_reckonGains_20 rfl rfl rfl ?_
        refine wk_aald2 (q := 22) dX0_reckonGains_21 rfl hO.s5 (by omega) (hO.w5 (by omega)) ?_
        refine wk_iload_n (i := 2) (q := 23) dX0_reckonGains_22 rfl rfl rfl ?_
        refine wk_iald (q := 24) dX0_reckonGains_23 rfl (hO.v5 (by omega)) (by omega) ?_
        refine wk_imul (q := 25) dX0_reckonGains_24 rfl ?_
        refine wk_i2l (q := 26) dX0_reckonGains_25 rfl hp ?_
        refine wk_lstore (i := 4) (lo' := [(0, _), (1, _), (2, _), (3, _), (4, _)]) (q := 28) dX0_reckonGains_26 rfl (by decide) rfl ?_
        refine wk_aload_n (i := 0) (q := 29) dX0_reckonGains_28 rfl rfl rfl ?_
        refine wk_getR (fi := 2) (q := 32) dX0_reckonGains_29 rfl fl_X0_15 rfl rfl hB.ob hB.r2 ?_
        refine wk_iload_n (i := 3) (q := 33) dX0_reckonGains_32 rfl rfl rfl ?_
        refine wk_aload_n (i := 1) (q := 34) dX0_reckonGains_33 rfl rfl rfl ?_
        refine wk_iload_n (i := 3) (q := 35) dX0_reckonGains_34 rfl rfl rfl ?_
        refine wk_iload_n (i := 2) (q := 36) dX0_reckonGains_35 rfl rfl rfl ?_
        refine wk_cP2 (q := 39) dX0_reckonGains_36 rfl vl_X0_103 ⟨_, _, rfl⟩ hO.ob (ct_X5_mayHave hO (by omega) (by omega) (by omega)) (qRo_m ok_X5_mayHave (by decide) (Nat.le_refl _) (Nat.le_refl _)) (Nat.le_of_ble_eq_true rfl) (fun v36 hv36 => ?_)
        rcases hv36 with ⟨rfl, hv36⟩ | ⟨rfl, hv36⟩
        · refine wk_if_eq (t := 62) (q := 42) dX0_reckonGains_39 rfl rfl (by omega) (fun hq => absurd hq (by decide)) (fun _ => ?_)
          refine wk_lload (i := 4) (q := 44) dX0_reckonGains_42 rfl rfl ?_
          refine wk_ldc2 (z := 10000000) (q := 47) dX0_reckonGains_44 rfl (v := 10000000) (qtb_in 597 (by decide +kernel) (by decide +kernel)) rfl ?_
          refine wk_lmul (q := 48) dX0_reckonGains_47 rfl ?_
          refine wk_bipush (q := 50) dX0_reckonGains_48 rfl (by decide +kernel) ?_
          refine wk_iload_n (i := 2) (q := 51) dX0_reckonGains_50 rfl rfl rfl ?_
          refine wk_isub (q := 52) dX0_reckonGains_51 rfl ?_
          refine wk_i2l (q := 53) dX0_reckonGains_52 rfl (by omega) ?_
          refine wk_iload_n (i := 3) (q := 54) dX0_reckonGains_53 rfl rfl rfl ?_
          refine wk_sJ1 (q := 57) dX0_reckonGains_54 rfl sl_X0_80 (ct_X0_unit (by omega)) (qRo_m ok_X0_unit (by decide) (Nat.le_refl _) (Nat.le_refl _)) (Nat.le_of_ble_eq_true rfl) (fun v54 I54 L54 R54 hv54 => ?_)
          obtain ⟨rfl, q1, q2, q3⟩ := hv54
          subst I54 L54 R54
          refine wk_lmul (q := 58) dX0_reckonGains_57 rfl ?_
          refine wk_ladd (q := 59) dX0_reckonGains_58 rfl ?_
          refine wk_goto (t := 65) dX0_reckonGains_59 rfl ?_
          refine wk_last (q := 66) dX0_reckonGains_65 rfl hB.s2 (by omega) ?_
          refine wk_iinc (lo' := [(0, _), (1, _), (2, _), (3, _), (4, _)]) (q := 69) dX0_reckonGains_66 rfl rfl (by decide) rfl ?_
          refine wk_goto (t := 2) dX0_reckonGains_69 rfl ?_
          refine wk_del (i := 4) (lo' := [(0, _), (1, _), (2, _), (3, _)]) rfl ?_
          skip
          first
            | (refine ih _ (fin _ ?_).1 (fin _ ?_).2 <;> (unfold gainF; rw [if_pos (by omega)]); done)
            | (have g0 : I (b + 3) (k : Int) * I (o + 7 + ((k : Nat) : Int).toNat) d * 10000000 + (9 - d) * p10 (k : Int).toNat = gainF T (I (b + 3)) d k := by
                unfold gainF
                rw [if_neg (by omega), eo]
                omega
               exact ih _ (fin _ g0).1 (fin _ g0).2)
        · refine wk_if_eq (t := 62) (q := 42) dX0_reckonGains_39 rfl rfl (by omega) (fun _ => ?_) (fun hq => absurd hq (by decide))
          refine wk_ldc2 (z := (-1)) (q := 65) dX0_reckonGains_62 rfl (v := (-1)) (qtb_in 588 (by decide +kernel) (by decide +kernel)) rfl ?_
          refine wk_last (q := 66) dX0_reckonGains_65 rfl hB.s2 (by omega) ?_
          refine wk_iinc (lo' := [(0, _), (1, _), (2, _), (3, _), (4, _)]) (q := 69) dX0_reckonGains_66 rfl rfl (by decide) rfl ?_
          refine wk_goto (t := 2) dX0_reckonGains_69 rfl ?_
          refine wk_del (i := 4) (lo' := [(0, _), (1, _), (2, _), (3, _)]) rfl ?_
          skip
          first
            | (refine ih _ (fin _ ?_).1 (fin _ ?_).2 <;> (unfold gainF; rw [if_pos (by omega)]); done)
            | (have g0 : I (b + 3) (k : Int) * I (o + 7 + ((k : Nat) : Int).toNat) d * 10000000 + (9 - d) * p10 (k : Int).toNat = gainF T (I (b + 3)) d k := by
                unfold gainF
                rw [if_neg (by omega), eo]
                omega
               exact ih _ (fin _ g0).1 (fin _ g0).2)
  refine Ct.of (lo := [(0, _), (1, _), (2, _)]) ok_X0_reckonGains (Nat.le_of_ble_eq_true rfl) rfl ?_
  refine wk_iconst (q := 1) dX0_reckonGains_0 rfl ?_
  refine wk_istore_n (i := 3) (lo' := [(0, _), (1, _), (2, _), (3, _)]) (q := 2) dX0_reckonGains_1 rfl rfl (by decide) rfl ?_
  exact loop 0 (Nat.zero_le _) L (fun _ _ _ => rfl) (fun g hg => absurd hg (by omega))
end BEST2
