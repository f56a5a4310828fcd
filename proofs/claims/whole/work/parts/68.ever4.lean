/-! the class's Ever: walk -/
def gladS (T : TT) (C : CC) (la : Int → Int) : Nat → Int → Int
  | 0, _ => 0
  | k + 1, g => gladS T C la k g + (evE T C (seqM T C la (Er T C la + k))).gl g
def ringL (T : TT) (C : CC) (la : Int → Int) : Int := (Er T C la : Int) - tailE T C la
def walkP (I I' : qI) (t y : Nat) (T : TT) (C : CC) (la : Int → Int) : Prop := frE I I' t y ∧ I' y 2 = tailE T C la ∧ I' y 3 = ringL T C la ∧ ∀ g, 0 ≤ g → g < T.ng → I' (y + 1) g = gladS T C la (ringL T C la).toNat g
section EVER4
variable {l : Launch} {E : qEv} {n : Nat} {sh : qSh} {I L : qI} {R : qR}
theorem ct_X1_walk {y t o : Nat} {T : TT} {C : CC} {la : Int → Int} (hY : qEver E.2.2 n sh R y) (hTb : qTab E.2.2 n sh R t o) (hot : o + 14 ≤ t) (hty : t + 38 ≤ y) (hok : T.ok) (hC : C.ok T) (hall : ∀ g, 0 ≤ g → g < T.ng → ∃ s, 0 ≤ s ∧ s < C.se ∧ tgt C s = g) (hsp : C.sp = -1) (hsT : shT I o T) (hsC : shC I t T C) (h8 : I t 8 = -1) (hla : ∀ g, 0 ≤ g → g < T.ng → I (t + 17) g = la g) (hLA : LA2 T la) :
    Ct l E 5 mX1_walk [.ref y, .ref t] (n, sh, I, L, R) 0 0 (qV n sh (fun I' L' R' => L' = L ∧ R' = R ∧ walkP I I' t y T C la)) := by
  have hn := hok.2.1
  have hn1 := hok.1
  have hE := Er_ok hok hC hall (la := la)
  have sq := seqM_la2 hok (C := C) hLA
  have hr : ringL T C la = (Er T C la : Int) - tailE T C la := rfl
  obtain ⟨e0, he0⟩ : ∃ e0, e0 = Er T C la := ⟨_, rfl⟩
  have outer : ∀ k : Nat, k ≤ (ringL T C la).toNat → ∀ I1 : qI, frE I I1 t y → shC I1 t T C → I1 t 8 = -1 → (∀ g, 0 ≤ g → g < T.ng → I1 (t + 17) g = seqM T C la (e0 + k) g) → I1 y 2 = tailE T C la → I1 y 3 = ringL T C la → (∀ g, 0 ≤ g → g < T.ng → I1 (y + 1) g = gladS T C la k g) → Wk l E (qmo E 5 n 0 0 (qV n sh (fun I' L' R' => L' = L ∧ R' = R ∧ walkP I I' t y T C la))) mX1_walk 0 0 15
      [(0, .ref y), (1, .ref t), (2, .int (zI (k : Int)))] [] (n, sh, I1, L, R) := by
    refine up_ind (ringL T C la).toNat ?_ ?_
    · intro I1 f1 f2 f3 f4 f5 f6 f7
      refine wk_iload_n (i := 2) (q := 16) dX1_walk_15 rfl rfl rfl ?_
      refine wk_aload_n (i := 0) (q := 17) dX1_walk_16 rfl rfl rfl ?_
      refine wk_getI (fi := 3) (q := 20) dX1_walk_17 rfl fl_X1_18 rfl rfl hY.ob ?_
      refine wk_icmp_ge (t := 62) (q := 23) dX1_walk_20 rfl rfl (by omega) (by omega) (fun hc20 => ?_) (fun hc20 => ?_)
      · refine wk_ret dX1_walk_62 rfl ⟨Nat.le_refl _, Nat.le_refl _⟩ rfl ?_
        exact ⟨_, _, _, rfl, rfl, rfl, rfl, f1, f5, f6, f7⟩
      · omega
    · intro k hk ih I1 f1 f2 f3 f4 f5 f6 f7
      have hsT1 : shT I1 o T := hsT.cg hn (fun b i q1 q2 => f1 b i (by omega) (by omega))
      have inner : ∀ I2 : qI, frE I I2 t y → shC I2 t T C → I2 t 8 = -1 → (∀ g, 0 ≤ g → g < T.ng → I2 (t + 17) g = seqM T C la (e0 + (k + 1)) g) → I2 y 2 = tailE T C la → I2 y 3 = ringL T C la → (∀ g, 0 ≤ g → g < T.ng → I2 (t + 36) g = (evE T C (seqM T C la (e0 + k))).gl g) → ∀ j : Nat, j ≤ 7 → ∀ I3 : qI, (∀ b i, b ≠ y + 1 → I3 b i = I2 b i) → (∀ g, 0 ≤ g → g < T.ng → I3 (y + 1) g = if g < j then gladS T C la (k + 1) g else gladS T C la k g) → Wk l E (qmo E 5 n 0 0 (qV n sh (fun I' L' R' => L' = L ∧ R' = R ∧ walkP I I' t y T C la))) mX1_walk 0 0 29
          [(0, .ref y), (1, .ref t), (2, .int (zI (k : Int))), (3, .int (zI (j : Int)))] [] (n, sh, I3, L, R) := by
        intro I2 a1 a2 a3 a4 a5 a6 a7
        refine up_ind 7 ?_ ?_
        · intro I3 b1 b2
          refine wk_iload_n (i := 3) (q := 30) dX1_walk_29 rfl rfl rfl ?_
          refine wk_bipush (q := 32) dX1_walk_30 rfl (by decide +kernel) ?_
          refine wk_icmp_ge (t := 56) (q := 35) dX1_walk_32 rfl rfl (by omega) (by omega) (fun hc32 => ?_) (fun hc32 => ?_)
          · refine wk_iinc (lo' := [(0, _), (1, _), (2, _), (3, _)]) (q := 59) dX1_walk_56 rfl rfl (by decide) rfl ?_
            refine wk_goto (t := 15) dX1_walk_59 rfl ?_
            refine wk_del (i := 3) (lo' := [(0, _), (1, _), (2, _)]) rfl ?_
            exact ih I3 (fun b i q0 q1 => (b1 b i (by omega)).trans (a1 b i q0 q1)) (a2.cg hn (fun b i q => b1 b i (by omega))) (by rw [b1 _ _ (by omega)]; exact a3) (fun g g0 g1 => by rw [b1 _ _ (by omega)]; exact a4 g g0 g1) (by rw [b1 _ _ (by omega)]; exact a5) (by rw [b1 _ _ (by omega)]; exact a6) (fun g g0 g1 => by rw [b2 g g0 g1, if_pos (by omega)])
          · omega
        · intro j hj ihj I3 b1 b2
          refine wk_iload_n (i := 3) (q := 30) dX1_walk_29 rfl rfl rfl ?_
          refine wk_bipush (q := 32) dX1_walk_30 rfl (by decide +kernel) ?_
          refine wk_icmp_ge (t := 56) (q := 35) dX1_walk_32 rfl rfl (by omega) (by omega) (fun hc32 => ?_) (fun hc32 => ?_)
          · omega
          · refine wk_aload_n (i := 0) (q := 36) dX1_walk_35 rfl rfl rfl ?_
            refine wk_getR (fi := 0) (q := 39) dX1_walk_36 rfl fl_X1_9 rfl rfl hY.ob hY.r0 ?_
            refine wk_iload_n (i := 3) (q := 40) dX1_walk_39 rfl rfl rfl ?_
            refine wk_dup2 (q := 41) dX1_walk_40 rfl rfl rfl ?_
            refine wk_iald (q := 42) dX1_walk_41 rfl hY.s0 (by omega) ?_
            refine wk_aload_n (i := 1) (q := 43) dX1_walk_42 rfl rfl rfl ?_
            refine wk_getR (fi := 11) (q := 46) dX1_walk_43 rfl fl_X1_37 rfl rfl hTb.1.ob hTb.1.r11 ?_
            refine wk_iload_n (i := 3) (q := 47) dX1_walk_46 rfl rfl rfl ?_
            refine wk_iald (q := 48) dX1_walk_47 rfl hTb.1.s11 (by omega) ?_
            refine wk_iadd (q := 49) dX1_walk_48 rfl ?_
            refine wk_iast (q := 50) dX1_walk_49 rfl hY.s0 (by omega) ?_
            refine wk_iinc (lo' := [(0, _), (1, _), (2, _), (3, _)]) (q := 53) dX1_walk_50 rfl rfl (by decide) rfl ?_
            refine wk_goto (t := 29) dX1_walk_53 rfl ?_
            refine ihj _ (fun b i q => by rw [up_na _ _ _ _ q]; exact b1 b i q) (fun g g0 g1 => ?_)
            by_cases hq : g = j
            · rw [hq] at g0 g1 ⊢
              rw [up_eq, if_pos (by omega), b2 _ g0 g1, if_neg (by omega), b1 _ _ (by omega), a7 _ g0 g1, he0]
              rfl
            · rw [up_ni _ _ hq, b2 g g0 g1]
              by_cases hz : g < (j : Int)
              · rw [if_pos hz, if_pos (by omega)]
              · rw [if_neg hz, if_neg (by omega)]
      refine wk_iload_n (i := 2) (q := 16) dX1_walk_15 rfl rfl rfl ?_
      refine wk_aload_n (i := 0) (q := 17) dX1_walk_16 rfl rfl rfl ?_
      refine wk_getI (fi := 3) (q := 20) dX1_walk_17 rfl fl_X1_18 rfl rfl hY.ob ?_
      refine wk_icmp_ge (t := 62) (q := 23) dX1_walk_20 rfl rfl (by omega) (by omega) (fun hc20 => ?_) (fun hc20 => ?_)
      · omega
      · refine wk_aload_n (i := 1) (q := 24) dX1_walk_23 rfl rfl rfl ?_
        refine wk_cV0 (q := 27) dX1_walk_24 rfl vl_X1_32 ⟨_, _, rfl⟩ hTb.1.ob (ct_X4_evening (la := seqM T C la (e0 + k)) hTb (by omega) hok hC hsT1 f2 f4 (sq _).ok (f3.trans hsp.symm)) (qRo_m ok_X4_evening (by decide) (Nat.le_refl _) (Nat.le_refl _)) (Nat.le_of_ble_eq_true rfl) (fun I24 L24 R24 hv24 => ?_)
        obtain ⟨rfl, rfl, g1, g2, g3, g4⟩ := hv24
        refine wk_iconst (q := 28) dX1_walk_27 rfl ?_
        refine wk_istore_n (i := 3) (lo' := [(0, _), (1, _), (2, _), (3, _)]) (q := 29) dX1_walk_28 rfl rfl (by decide) rfl ?_
        exact inner _ (fun b i q0 q1 => by rw [g1 _ _ (by omega) (by omega) (by omega) (by omega)]; exact f1 b i q0 q1) (f2.fv g1 hok) g2 (fun g q0 q1 => (g3.2 g q0 q1).1) (by rw [g1 _ _ (by omega) (by omega) (by omega) (by omega)]; exact f5) (by rw [g1 _ _ (by omega) (by omega) (by omega) (by omega)]; exact f6) (fun g q0 q1 => (g3.2 g q0 q1).2.1) 0 (by omega) _ (fun _ _ _ => rfl) (fun g q0 q1 => by rw [if_neg (by omega), g1 _ _ (by omega) (by omega) (by omega) (by omega)]; exact f7 g q0 q1)
  refine Ct.of (lo := [(0, _), (1, _)]) ok_X1_walk (Nat.le_of_ble_eq_true rfl) rfl ?_
  refine wk_aload_n (i := 0) (q := 1) dX1_walk_0 rfl rfl rfl ?_
  refine wk_aload_n (i := 1) (q := 2) dX1_walk_1 rfl rfl rfl ?_
  refine wk_cV1 (q := 5) dX1_walk_2 rfl vl_X1_22 ⟨_, _, rfl⟩ hY.ob (ct_X1_findRing hY hTb hot hty hok hC hall hsp hsT hsC h8 hla hLA) (qRo_m ok_X1_findRing (by decide) (Nat.le_refl _) (Nat.le_refl _)) (Nat.le_of_ble_eq_true rfl) (fun I2 L2 R2 hv2 => ?_)
  obtain ⟨rfl, rfl, f1, f2, f3, f4, f5, f6⟩ := hv2
  refine wk_aload_n (i := 0) (q := 6) dX1_walk_5 rfl rfl rfl ?_
  refine wk_getR (fi := 0) (q := 9) dX1_walk_6 rfl fl_X1_9 rfl rfl hY.ob hY.r0 ?_
  refine wk_iconst (q := 10) dX1_walk_9 rfl ?_
  refine wk_sV2 (q := 13) dX1_walk_10 rfl sl_X1_26 (ct_fillI hY.s0) (qRo_m ok_J7_fill_53178 (by decide) (Nat.le_refl _) (Nat.le_refl _)) (Nat.le_of_ble_eq_true rfl) (fun I10 L10 R10 hv10 => ?_)
  obtain ⟨rfl, rfl, rfl⟩ := hv10
  rw [← he0] at f4
  refine wk_iconst (q := 14) dX1_walk_13 rfl ?_
  refine wk_istore_n (i := 2) (lo' := [(0, _), (1, _), (2, _)]) (q := 15) dX1_walk_14 rfl rfl (by decide) rfl ?_
  exact outer 0 (Nat.zero_le _) _ (fun b i q0 q1 => by rw [fillI_ne _ _ _ (by omega)]; exact f1 b i q0 q1) (f2.cg hn (fun b i q => fillI_ne _ _ _ (by omega))) (by rw [fillI_ne _ _ _ (by omega)]; exact f3) (fun g g0 g1 => by rw [fillI_ne _ _ _ (by omega)]; exact f4 g g0 g1) (by rw [fillI_ne _ _ _ (by omega)]; exact f5) (by rw [fillI_ne _ _ _ (by omega)]; exact f6) (fun g g0 g1 => fillI_in (by omega))
end EVER4
