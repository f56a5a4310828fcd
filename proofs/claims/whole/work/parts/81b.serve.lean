/-! BEST, the class serves a portion -/
section BEST2S
variable {l : Launch} {E : qEv} {n : Nat} {sh : qSh} {I L : qI} {R : qR}
theorem ct_X0_serve {b N : Nat} (hB : qBest E.2.2 n sh R b) (hN : 2 ≤ N ∧ N ≤ 7) (hL : ∀ S : Nat, S < 2 ^ N → -1 ≤ L (b + 1) S ∧ L (b + 1) S ≤ 1000000000000) (hG : ∀ g : Nat, g < N → -1 ≤ L (b + 2) g ∧ L (b + 2) g ≤ 1000000000000) :
    Ct l E 1 mX0_serve [.ref b, .int (zI (N : Int))] (n, sh, I, L, R) 0 0 (qV n sh (fun I' L' R' => I' = I ∧ R' = R ∧ (∀ c i, ¬ (c = b + 1 ∧ 0 ≤ i ∧ i < ((2 ^ N : Nat) : Int)) → L' c i = L c i) ∧ serP N (L (b + 2)) (L (b + 1)) (L' (b + 1)))) := by
  have hp : 2 ^ N ≤ 128 := Nat.pow_le_pow_right (n := 2) (by decide) hN.2
  have outer : ∀ s : Nat, s < 2 ^ N → ∀ L1 : qI, (∀ c i, ¬ (c = b + 1 ∧ 0 ≤ i ∧ i < ((2 ^ N : Nat) : Int)) → L1 c i = L c i) → (∀ S : Nat, S ≤ s → L1 (b + 1) S = L (b + 1) S) → (∀ S : Nat, s < S → S < 2 ^ N → serG N (L (b + 2)) (L (b + 1)) S (L1 (b + 1) S)) → Wk l E (qmo E 1 n 0 0 (qV n sh (fun I' L' R' => I' = I ∧ R' = R ∧ (∀ c i, ¬ (c = b + 1 ∧ 0 ≤ i ∧ i < ((2 ^ N : Nat) : Int)) → L' c i = L c i) ∧ serP N (L (b + 2)) (L (b + 1)) (L' (b + 1))))) mX0_serve 0 0 6
      [(0, .ref b), (1, .int (zI (N : Int))), (2, .int (zI (s : Int)))] [] (n, sh, I, L1, R) := by
    intro s
    induction s with
    | zero =>
      intro hs L1 f1 f2 f3
      refine wk_iload_n (i := 2) (q := 7) dX0_serve_6 rfl rfl rfl ?_
      refine wk_if_le (t := 96) (q := 10) dX0_serve_7 rfl rfl (by omega) (fun hc7 => ?_) (fun hc7 => ?_)
      · refine wk_ret dX0_serve_96 rfl ⟨Nat.le_refl _, Nat.le_refl _⟩ rfl ?_
        refine ⟨_, _, _, rfl, rfl, rfl, rfl, f1, fun S hS => ?_⟩
        by_cases e : S = 0
        · subst e
          rw [f2 0 (Nat.le_refl _)]
          exact tb_z (fun g _ => Nat.zero_testBit g)
        · exact f3 S (by omega) hS
      · omega
    | succ s ihs =>
      intro hs L1 f1 f2 f3
      have inner : ∀ k : Nat, k ≤ N → ∀ L2 : qI, (∀ c i, ¬ (c = b + 1 ∧ i = ((s + 1 : Nat) : Int)) → L2 c i = L1 c i) → serG k (L (b + 2)) (L (b + 1)) (s + 1) (L2 (b + 1) ((s + 1 : Nat) : Int)) → Wk l E (qmo E 1 n 0 0 (qV n sh (fun I' L' R' => I' = I ∧ R' = R ∧ (∀ c i, ¬ (c = b + 1 ∧ 0 ≤ i ∧ i < ((2 ^ N : Nat) : Int)) → L' c i = L c i) ∧ serP N (L (b + 2)) (L (b + 1)) (L' (b + 1))))) mX0_serve 0 0 12
          [(0, .ref b), (1, .int (zI (N : Int))), (2, .int (zI ((s + 1 : Nat) : Int))), (3, .int (zI (k : Int)))] [] (n, sh, I, L2, R) := by
        refine up_ind N ?_ ?_
        · intro L2 g1 g2
          refine wk_iload_n (i := 3) (q := 13) dX0_serve_12 rfl rfl rfl ?_
          refine wk_iload_n (i := 1) (q := 14) dX0_serve_13 rfl rfl rfl ?_
          refine wk_icmp_ge (t := 90) (q := 17) dX0_serve_14 rfl rfl (by omega) (by omega) (fun hc14 => ?_) (fun hc14 => ?_)
          · refine wk_iinc (lo' := [(0, _), (1, _), (2, _), (3, _)]) (q := 93) dX0_serve_90 rfl rfl (by decide) rfl ?_
            refine wk_goto (t := 6) dX0_serve_93 rfl ?_
            refine wk_del (i := 3) (lo' := [(0, _), (1, _), (2, _)]) rfl ?_
            have ih' := ihs (by omega) L2 (fun c i q => by rw [g1 _ _ (by omega)]; exact f1 c i q) (fun S hS => by rw [g1 _ _ (by omega)]; exact f2 S (by omega)) (fun S h1 h2 => by
              by_cases e : S = s + 1
              · subst e
                exact g2
              · rw [g1 _ _ (by omega)]
                exact f3 S (by omega) h2)
            rw [show ((s + 1 : Nat) : Int) + -1 = (s : Int) by omega]
            exact ih'
          · omega
        · intro k hk ih L2 g1 g2
          have hk7 : k < 7 := by omega
          have hs7 : s + 1 < 128 := by omega
          have eG : L2 (b + 2) (k : Int) = L (b + 2) k := by rw [g1 _ _ (by omega), f1 _ _ (by omega)]
          have bG := hG k hk
          have bS := hL (s + 1) hs
          have lt : wout (s + 1) k < 2 ^ N := by
            cases q : (s + 1).testBit k with
            | true => have := wout_lt hs7 hk7 q; omega
            | false => rw [wout_eq q]; exact hs
          have bW := hL (wout (s + 1) k) lt
          have bv : -1 ≤ L2 (b + 1) ((s + 1 : Nat) : Int) ∧ L2 (b + 1) ((s + 1 : Nat) : Int) ≤ 2000000000000 := by
            refine ⟨Int.le_trans bS.1 g2.1, ?_⟩
            rcases g2.2.2 with z | ⟨g, z1, z2, z3, z4, z5⟩
            · omega
            · have a1 := hG g (by omega)
              have a2 := wout_lt hs7 (show g < 7 by omega) z2
              have a3 := hL (wout (s + 1) g) (by omega)
              omega
          have eW : wout (s + 1) k ≠ s + 1 → (s + 1).testBit k = true ∧ L2 (b + 1) ((wout (s + 1) k : Nat) : Int) = L (b + 1) ((wout (s + 1) k : Nat) : Int) := fun q => by
            cases c : (s + 1).testBit k with
            | true =>
              have := wout_lt hs7 hk7 c
              exact ⟨rfl, by rw [g1 _ _ (by omega)]; exact f2 _ (by omega)⟩
            | false => exact absurd (wout_eq c) q
          have same : (¬ ((s + 1).testBit k = true ∧ 0 ≤ L (b + 2) k ∧ 0 ≤ L (b + 1) ((wout (s + 1) k : Nat) : Int))) → serG (k + 1) (L (b + 2)) (L (b + 1)) (s + 1) (L2 (b + 1) ((s + 1 : Nat) : Int)) := fun q => serG_s g2 (Int.le_refl _) (fun a b c => absurd ⟨a, b, c⟩ q) (Or.inl rfl)
          refine wk_iload_n (i := 3) (q := 13) dX0_serve_12 rfl rfl rfl ?_
          refine wk_iload_n (i := 1) (q := 14) dX0_serve_13 rfl rfl rfl ?_
          refine wk_icmp_ge (t := 90) (q := 17) dX0_serve_14 rfl rfl (by omega) (by omega) (fun hc14 => ?_) (fun hc14 => ?_)
          · omega
          · refine wk_iload_n (i := 2) (q := 18) dX0_serve_17 rfl rfl rfl ?_
            refine wk_iconst (q := 19) dX0_serve_18 rfl ?_
            refine wk_iload_n (i := 3) (q := 20) dX0_serve_19 rfl rfl rfl ?_
            refine wk_ishl (q := 21) dX0_serve_20 rfl ?_
            refine wk_iconst (q := 22) dX0_serve_21 rfl ?_
            refine wk_ixor (q := 23) dX0_serve_22 rfl ?_
            refine wk_iand (q := 24) dX0_serve_23 rfl ?_
            rw [wout_z hs7 hk7]
            refine wk_istore (i := 4) (lo' := [(0, _), (1, _), (2, _), (3, _), (4, _)]) (q := 26) dX0_serve_24 rfl (by decide) rfl ?_
            refine wk_iload (i := 4) (q := 28) dX0_serve_26 rfl rfl ?_
            refine wk_iload_n (i := 2) (q := 29) dX0_serve_28 rfl rfl rfl ?_
            refine wk_icmp_eq (t := 84) (q := 32) dX0_serve_29 rfl rfl (by omega) (by omega) (fun hc29 => ?_) (fun hc29 => ?_)
            · refine wk_iinc (lo' := [(0, _), (1, _), (2, _), (3, _), (4, _)]) (q := 87) dX0_serve_84 rfl rfl (by decide) rfl ?_
              refine wk_goto (t := 12) dX0_serve_87 rfl ?_
              refine wk_del (i := 4) (lo' := [(0, _), (1, _), (2, _), (3, _)]) rfl ?_
              skip
              first
                | exact ih _ g1 (same (fun q => by
                    have := wout_lt hs7 hk7 q.1
                    first
                      | omega
                      | (have := (eW (by omega)).2; omega)))
                | (refine ih _ (fun c i q => ?_) ?_
                   · rw [up_off q]
                     exact g1 c i q
                   · rw [up_eq]
                     have e1 := eW'.2
                     exact serG_s g2 (by omega) (fun _ _ _ => by omega) (by
                       rcases (by omega : max (L2 (b + 1) ((s + 1 : Nat) : Int)) (L2 (b + 1) ((wout (s + 1) k : Nat) : Int) + L2 (b + 2) (k : Int)) = L2 (b + 1) ((s + 1 : Nat) : Int) ∨ max (L2 (b + 1) ((s + 1 : Nat) : Int)) (L2 (b + 1) ((wout (s + 1) k : Nat) : Int) + L2 (b + 2) (k : Int)) = L2 (b + 1) ((wout (s + 1) k : Nat) : Int) + L2 (b + 2) (k : Int)) with z | z
                       · exact Or.inl z
                       · exact Or.inr ⟨eW'.1, by omega, by omega, by omega⟩))
            · refine wk_aload_n (i := 0) (q := 33) dX0_serve_32 rfl rfl rfl ?_
              refine wk_getR (fi := 2) (q := 36) dX0_serve_33 rfl fl_X0_15 rfl rfl hB.ob hB.r2 ?_
              refine wk_iload_n (i := 3) (q := 37) dX0_serve_36 rfl rfl rfl ?_
              refine wk_lald (q := 38) dX0_serve_37 rfl hB.s2 (by omega) ?_
              refine wk_lconst (z := 0) (q := 39) dX0_serve_38 rfl rfl ?_
              refine wk_lcmp (q := 40) dX0_serve_39 rfl (by omega) (by omega) (fun hc39 => ?_) (fun hc39 => ?_) (fun hc39 => ?_)
              · refine wk_if_lt (t := 84) (q := 43) dX0_serve_40 rfl rfl (by omega) (fun hq => absurd hq (by decide)) (fun _ => ?_)
                refine wk_aload_n (i := 0) (q := 44) dX0_serve_43 rfl rfl rfl ?_
                refine wk_getR (fi := 1) (q := 47) dX0_serve_44 rfl fl_X0_9 rfl rfl hB.ob hB.r1 ?_
                refine wk_iload (i := 4) (q := 49) dX0_serve_47 rfl rfl ?_
                refine wk_lald (q := 50) dX0_serve_49 rfl hB.s1 (by omega) ?_
                refine wk_lconst (z := 0) (q := 51) dX0_serve_50 rfl rfl ?_
                refine wk_lcmp (q := 52) dX0_serve_51 rfl (by omega) (by omega) (fun hc51 => ?_) (fun hc51 => ?_) (fun hc51 => ?_)
                · refine wk_if_lt (t := 84) (q := 55) dX0_serve_52 rfl rfl (by omega) (fun hq => absurd hq (by decide)) (fun _ => ?_)
                  refine wk_aload_n (i := 0) (q := 56) dX0_serve_55 rfl rfl rfl ?_
                  refine wk_getR (fi := 1) (q := 59) dX0_serve_56 rfl fl_X0_9 rfl rfl hB.ob hB.r1 ?_
                  refine wk_iload_n (i := 2) (q := 60) dX0_serve_59 rfl rfl rfl ?_
                  refine wk_aload_n (i := 0) (q := 61) dX0_serve_60 rfl rfl rfl ?_
                  refine wk_getR (fi := 1) (q := 64) dX0_serve_61 rfl fl_X0_9 rfl rfl hB.ob hB.r1 ?_
                  refine wk_iload_n (i := 2) (q := 65) dX0_serve_64 rfl rfl rfl ?_
                  refine wk_lald (q := 66) dX0_serve_65 rfl hB.s1 (by omega) ?_
                  refine wk_aload_n (i := 0) (q := 67) dX0_serve_66 rfl rfl rfl ?_
                  refine wk_getR (fi := 1) (q := 70) dX0_serve_67 rfl fl_X0_9 rfl rfl hB.ob hB.r1 ?_
                  refine wk_iload (i := 4) (q := 72) dX0_serve_70 rfl rfl ?_
                  refine wk_lald (q := 73) dX0_serve_72 rfl hB.s1 (by omega) ?_
                  refine wk_aload_n (i := 0) (q := 74) dX0_serve_73 rfl rfl rfl ?_
                  refine wk_getR (fi := 2) (q := 77) dX0_serve_74 rfl fl_X0_15 rfl rfl hB.ob hB.r2 ?_
                  refine wk_iload_n (i := 3) (q := 78) dX0_serve_77 rfl rfl rfl ?_
                  refine wk_lald (q := 79) dX0_serve_78 rfl hB.s2 (by omega) ?_
                  refine wk_ladd (q := 80) dX0_serve_79 rfl ?_
                  have eW' := eW (by omega)
                  refine wk_max (q := 83) dX0_serve_80 rfl w_mx_0 (by omega) (by omega) (Nat.le_of_ble_eq_true rfl) (Nat.le_of_ble_eq_true rfl) ⟨Nat.le_refl _, Nat.le_refl _⟩ ?_
                  refine wk_last (q := 84) dX0_serve_83 rfl hB.s1 (by omega) ?_
                  refine wk_iinc (lo' := [(0, _), (1, _), (2, _), (3, _), (4, _)]) (q := 87) dX0_serve_84 rfl rfl (by decide) rfl ?_
                  refine wk_goto (t := 12) dX0_serve_87 rfl ?_
                  refine wk_del (i := 4) (lo' := [(0, _), (1, _), (2, _), (3, _)]) rfl ?_
                  skip
                  first
                    | exact ih _ g1 (same (fun q => by
                        have := wout_lt hs7 hk7 q.1
                        first
                          | omega
                          | (have := (eW (by omega)).2; omega)))
                    | (refine ih _ (fun c i q => ?_) ?_
                       · rw [up_off q]
                         exact g1 c i q
                       · rw [up_eq]
                         have e1 := eW'.2
                         exact serG_s g2 (by omega) (fun _ _ _ => by omega) (by
                           rcases (by omega : max (L2 (b + 1) ((s + 1 : Nat) : Int)) (L2 (b + 1) ((wout (s + 1) k : Nat) : Int) + L2 (b + 2) (k : Int)) = L2 (b + 1) ((s + 1 : Nat) : Int) ∨ max (L2 (b + 1) ((s + 1 : Nat) : Int)) (L2 (b + 1) ((wout (s + 1) k : Nat) : Int) + L2 (b + 2) (k : Int)) = L2 (b + 1) ((wout (s + 1) k : Nat) : Int) + L2 (b + 2) (k : Int)) with z | z
                           · exact Or.inl z
                           · exact Or.inr ⟨eW'.1, by omega, by omega, by omega⟩))
                · refine wk_if_lt (t := 84) (q := 55) dX0_serve_52 rfl rfl (by omega) (fun hq => absurd hq (by decide)) (fun _ => ?_)
                  refine wk_aload_n (i := 0) (q := 56) dX0_serve_55 rfl rfl rfl ?_
                  refine wk_getR (fi := 1) (q := 59) dX0_serve_56 rfl fl_X0_9 rfl rfl hB.ob hB.r1 ?_
                  refine wk_iload_n (i := 2) (q := 60) dX0_serve_59 rfl rfl rfl ?_
                  refine wk_aload_n (i := 0) (q := 61) dX0_serve_60 rfl rfl rfl ?_
                  refine wk_getR (fi := 1) (q := 64) dX0_serve_61 rfl fl_X0_9 rfl rfl hB.ob hB.r1 ?_
                  refine wk_iload_n (i := 2) (q := 65) dX0_serve_64 rfl rfl rfl ?_
                  refine wk_lald (q := 66) dX0_serve_65 rfl hB.s1 (by omega) ?_
                  refine wk_aload_n (i := 0) (q := 67) dX0_serve_66 rfl rfl rfl ?_
                  refine wk_getR (fi := 1) (q := 70) dX0_serve_67 rfl fl_X0_9 rfl rfl hB.ob hB.r1 ?_
                  refine wk_iload (i := 4) (q := 72) dX0_serve_70 rfl rfl ?_
                  refine wk_lald (q := 73) dX0_serve_72 rfl hB.s1 (by omega) ?_
                  refine wk_aload_n (i := 0) (q := 74) dX0_serve_73 rfl rfl rfl ?_
                  refine wk_getR (fi := 2) (q := 77) dX0_serve_74 rfl fl_X0_15 rfl rfl hB.ob hB.r2 ?_
                  refine wk_iload_n (i := 3) (q := 78) dX0_serve_77 rfl rfl rfl ?_
                  refine wk_lald (q := 79) dX0_serve_78 rfl hB.s2 (by omega) ?_
                  refine wk_ladd (q := 80) dX0_serve_79 rfl ?_
                  have eW' := eW (by omega)
                  refine wk_max (q := 83) dX0_serve_80 rfl w_mx_0 (by omega) (by omega) (Nat.le_of_ble_eq_true rfl) (Nat.le_of_ble_eq_true rfl) ⟨Nat.le_refl _, Nat.le_refl _⟩ ?_
                  refine wk_last (q := 84) dX0_serve_83 rfl hB.s1 (by omega) ?_
                  refine wk_iinc (lo' := [(0, _), (1, _), (2, _), (3, _), (4, _)]) (q := 87) dX0_serve_84 rfl rfl (by decide) rfl ?_
                  refine wk_goto (t := 12) dX0_serve_87 rfl ?_
                  refine wk_del (i := 4) (lo' := [(0, _), (1, _), (2, _), (3, _)]) rfl ?_
                  skip
                  first
                    | exact ih _ g1 (same (fun q => by
                        have := wout_lt hs7 hk7 q.1
                        first
                          | omega
                          | (have := (eW (by omega)).2; omega)))
                    | (refine ih _ (fun c i q => ?_) ?_
                       · rw [up_off q]
                         exact g1 c i q
                       · rw [up_eq]
                         have e1 := eW'.2
                         exact serG_s g2 (by omega) (fun _ _ _ => by omega) (by
                           rcases (by omega : max (L2 (b + 1) ((s + 1 : Nat) : Int)) (L2 (b + 1) ((wout (s + 1) k : Nat) : Int) + L2 (b + 2) (k : Int)) = L2 (b + 1) ((s + 1 : Nat) : Int) ∨ max (L2 (b + 1) ((s + 1 : Nat) : Int)) (L2 (b + 1) ((wout (s + 1) k : Nat) : Int) + L2 (b + 2) (k : Int)) = L2 (b + 1) ((wout (s + 1) k : Nat) : Int) + L2 (b + 2) (k : Int)) with z | z
                           · exact Or.inl z
                           · exact Or.inr ⟨eW'.1, by omega, by omega, by omega⟩))
                · refine wk_if_lt (t := 84) (q := 55) dX0_serve_52 rfl rfl (by omega) (fun _ => ?_) (fun hq => absurd hq (by decide))
                  refine wk_iinc (lo' := [(0, _), (1, _), (2, _), (3, _), (4, _)]) (q := 87) dX0_serve_84 rfl rfl (by decide) rfl ?_
                  refine wk_goto (t := 12) dX0_serve_87 rfl ?_
                  refine wk_del (i := 4) (lo' := [(0, _), (1, _), (2, _), (3, _)]) rfl ?_
                  skip
                  first
                    | exact ih _ g1 (same (fun q => by
                        have := wout_lt hs7 hk7 q.1
                        first
                          | omega
                          | (have := (eW (by omega)).2; omega)))
                    | (refine ih _ (fun c i q => ?_) ?_
                       · rw [up_off q]
                         exact g1 c i q
                       · rw [up_eq]
                         have e1 := eW'.2
                         exact serG_s g2 (by omega) (fun _ _ _ => by omega) (by
                           rcases (by omega : max (L2 (b + 1) ((s + 1 : Nat) : Int)) (L2 (b + 1) ((wout (s + 1) k : Nat) : Int) + L2 (b + 2) (k : Int)) = L2 (b + 1) ((s + 1 : Nat) : Int) ∨ max (L2 (b + 1) ((s + 1 : Nat) : Int)) (L2 (b + 1) ((wout (s + 1) k : Nat) : Int) + L2 (b + 2) (k : Int)) = L2 (b + 1) ((wout (s + 1) k : Nat) : Int) + L2 (b + 2) (k : Int)) with z | z
                           · exact Or.inl z
                           · exact Or.inr ⟨eW'.1, by omega, by omega, by omega⟩))
              · refine wk_if_lt (t := 84) (q := 43) dX0_serve_40 rfl rfl (by omega) (fun hq => absurd hq (by decide)) (fun _ => ?_)
                refine wk_aload_n (i := 0) (q := 44) dX0_serve_43 rfl rfl rfl ?_
                refine wk_getR (fi := 1) (q := 47) dX0_serve_44 rfl fl_X0_9 rfl rfl hB.ob hB.r1 ?_
                refine wk_iload (i := 4) (q := 49) dX0_serve_47 rfl rfl ?_
                refine wk_lald (q := 50) dX0_serve_49 rfl hB.s1 (by omega) ?_
                refine wk_lconst (z := 0) (q := 51) dX0_serve_50 rfl rfl ?_
                refine wk_lcmp (q := 52) dX0_serve_51 rfl (by omega) (by omega) (fun hc51 => ?_) (fun hc51 => ?_) (fun hc51 => ?_)
                · refine wk_if_lt (t := 84) (q := 55) dX0_serve_52 rfl rfl (by omega) (fun hq => absurd hq (by decide)) (fun _ => ?_)
                  refine wk_aload_n (i := 0) (q := 56) dX0_serve_55 rfl rfl rfl ?_
                  refine wk_getR (fi := 1) (q := 59) dX0_serve_56 rfl fl_X0_9 rfl rfl hB.ob hB.r1 ?_
                  refine wk_iload_n (i := 2) (q := 60) dX0_serve_59 rfl rfl rfl ?_
                  refine wk_aload_n (i := 0) (q := 61) dX0_serve_60 rfl rfl rfl ?_
                  refine wk_getR (fi := 1) (q := 64) dX0_serve_61 rfl fl_X0_9 rfl rfl hB.ob hB.r1 ?_
                  refine wk_iload_n (i := 2) (q := 65) dX0_serve_64 rfl rfl rfl ?_
                  refine wk_lald (q := 66) dX0_serve_65 rfl hB.s1 (by omega) ?_
                  refine wk_aload_n (i := 0) (q := 67) dX0_serve_66 rfl rfl rfl ?_
                  refine wk_getR (fi := 1) (q := 70) dX0_serve_67 rfl fl_X0_9 rfl rfl hB.ob hB.r1 ?_
                  refine wk_iload (i := 4) (q := 72) dX0_serve_70 rfl rfl ?_
                  refine wk_lald (q := 73) dX0_serve_72 rfl hB.s1 (by omega) ?_
                  refine wk_aload_n (i := 0) (q := 74) dX0_serve_73 rfl rfl rfl ?_
                  refine wk_getR (fi := 2) (q := 77) dX0_serve_74 rfl fl_X0_15 rfl rfl hB.ob hB.r2 ?_
                  refine wk_iload_n (i := 3) (q := 78) dX0_serve_77 rfl rfl rfl ?_
                  refine wk_lald (q := 79) dX0_serve_78 rfl hB.s2 (by omega) ?_
                  refine wk_ladd (q := 80) dX0_serve_79 rfl ?_
                  have eW' := eW (by omega)
                  refine wk_max (q := 83) dX0_serve_80 rfl w_mx_0 (by omega) (by omega) (Nat.le_of_ble_eq_true rfl) (Nat.le_of_ble_eq_true rfl) ⟨Nat.le_refl _, Nat.le_refl _⟩ ?_
                  refine wk_last (q := 84) dX0_serve_83 rfl hB.s1 (by omega) ?_
                  refine wk_iinc (lo' := [(0, _), (1, _), (2, _), (3, _), (4, _)]) (q := 87) dX0_serve_84 rfl rfl (by decide) rfl ?_
                  refine wk_goto (t := 12) dX0_serve_87 rfl ?_
                  refine wk_del (i := 4) (lo' := [(0, _), (1, _), (2, _), (3, _)]) rfl ?_
                  skip
                  first
                    | exact ih _ g1 (same (fun q => by
                        have := wout_lt hs7 hk7 q.1
                        first
                          | omega
                          | (have := (eW (by omega)).2; omega)))
                    | (refine ih _ (fun c i q => ?_) ?_
                       · rw [up_off q]
                         exact g1 c i q
                       · rw [up_eq]
                         have e1 := eW'.2
                         exact serG_s g2 (by omega) (fun _ _ _ => by omega) (by
                           rcases (by omega : max (L2 (b + 1) ((s + 1 : Nat) : Int)) (L2 (b + 1) ((wout (s + 1) k : Nat) : Int) + L2 (b + 2) (k : Int)) = L2 (b + 1) ((s + 1 : Nat) : Int) ∨ max (L2 (b + 1) ((s + 1 : Nat) : Int)) (L2 (b + 1) ((wout (s + 1) k : Nat) : Int) + L2 (b + 2) (k : Int)) = L2 (b + 1) ((wout (s + 1) k : Nat) : Int) + L2 (b + 2) (k : Int)) with z | z
                           · exact Or.inl z
                           · exact Or.inr ⟨eW'.1, by omega, by omega, by omega⟩))
                · refine wk_if_lt (t := 84) (q := 55) dX0_serve_52 rfl rfl (by omega) (fun hq => absurd hq (by decide)) (fun _ => ?_)
                  refine wk_aload_n (i := 0) (q := 56) dX0_serve_55 rfl rfl rfl ?_
                  refine wk_getR (fi := 1) (q := 59) dX0_serve_56 rfl fl_X0_9 rfl rfl hB.ob hB.r1 ?_
                  refine wk_iload_n (i := 2) (q := 60) dX0_serve_59 rfl rfl rfl ?_
                  refine wk_aload_n (i := 0) (q := 61) dX0_serve_60 rfl rfl rfl ?_
                  refine wk_getR (fi := 1) (q := 64) dX0_serve_61 rfl fl_X0_9 rfl rfl hB.ob hB.r1 ?_
                  refine wk_iload_n (i := 2) (q := 65) dX0_serve_64 rfl rfl rfl ?_
                  refine wk_lald (q := 66) dX0_serve_65 rfl hB.s1 (by omega) ?_
                  refine wk_aload_n (i := 0) (q := 67) dX0_serve_66 rfl rfl rfl ?_
                  refine wk_getR (fi := 1) (q := 70) dX0_serve_67 rfl fl_X0_9 rfl rfl hB.ob hB.r1 ?_
                  refine wk_iload (i := 4) (q := 72) dX0_serve_70 rfl rfl ?_
                  refine wk_lald (q := 73) dX0_serve_72 rfl hB.s1 (by omega) ?_
                  refine wk_aload_n (i := 0) (q := 74) dX0_serve_73 rfl rfl rfl ?_
                  refine wk_getR (fi := 2) (q := 77) dX0_serve_74 rfl fl_X0_15 rfl rfl hB.ob hB.r2 ?_
                  refine wk_iload_n (i := 3) (q := 78) dX0_serve_77 rfl rfl rfl ?_
                  refine wk_lald (q := 79) dX0_serve_78 rfl hB.s2 (by omega) ?_
                  refine wk_ladd (q := 80) dX0_serve_79 rfl ?_
                  have eW' := eW (by omega)
                  refine wk_max (q := 83) dX0_serve_80 rfl w_mx_0 (by omega) (by omega) (Nat.le_of_ble_eq_true rfl) (Nat.le_of_ble_eq_true rfl) ⟨Nat.le_refl _, Nat.le_refl _⟩ ?_
                  refine wk_last (q := 84) dX0_serve_83 rfl hB.s1 (by omega) ?_
                  refine wk_iinc (lo' := [(0, _), (1, _), (2, _), (3, _), (4, _)]) (q := 87) dX0_serve_84 rfl rfl (by decide) rfl ?_
                  refine wk_goto (t := 12) dX0_serve_87 rfl ?_
                  refine wk_del (i := 4) (lo' := [(0, _), (1, _), (2, _), (3, _)]) rfl ?_
                  skip
                  first
                    | exact ih _ g1 (same (fun q => by
                        have := wout_lt hs7 hk7 q.1
                        first
                          | omega
                          | (have := (eW (by omega)).2; omega)))
                    | (refine ih _ (fun c i q => ?_) ?_
                       · rw [up_off q]
                         exact g1 c i q
                       · rw [up_eq]
                         have e1 := eW'.2
                         exact serG_s g2 (by omega) (fun _ _ _ => by omega) (by
                           rcases (by omega : max (L2 (b + 1) ((s + 1 : Nat) : Int)) (L2 (b + 1) ((wout (s + 1) k : Nat) : Int) + L2 (b + 2) (k : Int)) = L2 (b + 1) ((s + 1 : Nat) : Int) ∨ max (L2 (b + 1) ((s + 1 : Nat) : Int)) (L2 (b + 1) ((wout (s + 1) k : Nat) : Int) + L2 (b + 2) (k : Int)) = L2 (b + 1) ((wout (s + 1) k : Nat) : Int) + L2 (b + 2) (k : Int)) with z | z
                           · exact Or.inl z
                           · exact Or.inr ⟨eW'.1, by omega, by omega, by omega⟩))
                · refine wk_if_lt (t := 84) (q := 55) dX0_serve_52 rfl rfl (by omega) (fun _ => ?_) (fun hq => absurd hq (by decide))
                  refine wk_iinc (lo' := [(0, _), (1, _), (2, _), (3, _), (4, _)]) (q := 87) dX0_serve_84 rfl rfl (by decide) rfl ?_
                  refine wk_goto (t := 12) dX0_serve_87 rfl ?_
                  refine wk_del (i := 4) (lo' := [(0, _), (1, _), (2, _), (3, _)]) rfl ?_
                  skip
                  first
                    | exact ih _ g1 (same (fun q => by
                        have := wout_lt hs7 hk7 q.1
                        first
                          | omega
                          | (have := (eW (by omega)).2; omega)))
                    | (refine ih _ (fun c i q => ?_) ?_
                       · rw [up_off q]
                         exact g1 c i q
                       · rw [up_eq]
                         have e1 := eW'.2
                         exact serG_s g2 (by omega) (fun _ _ _ => by omega) (by
                           rcases (by omega : max (L2 (b + 1) ((s + 1 : Nat) : Int)) (L2 (b + 1) ((wout (s + 1) k : Nat) : Int) + L2 (b + 2) (k : Int)) = L2 (b + 1) ((s + 1 : Nat) : Int) ∨ max (L2 (b + 1) ((s + 1 : Nat) : Int)) (L2 (b + 1) ((wout (s + 1) k : Nat) : Int) + L2 (b + 2) (k : Int)) = L2 (b + 1) ((wout (s + 1) k : Nat) : Int) + L2 (b + 2) (k : Int)) with z | z
                           · exact Or.inl z
                           · exact Or.inr ⟨eW'.1, by omega, by omega, by omega⟩))
              · refine wk_if_lt (t := 84) (q := 43) dX0_serve_40 rfl rfl (by omega) (fun _ => ?_) (fun hq => absurd hq (by decide))
                refine wk_iinc (lo' := [(0, _), (1, _), (2, _), (3, _), (4, _)]) (q := 87) dX0_serve_84 rfl rfl (by decide) rfl ?_
                refine wk_goto (t := 12) dX0_serve_87 rfl ?_
                refine wk_del (i := 4) (lo' := [(0, _), (1, _), (2, _), (3, _)]) rfl ?_
                skip
                first
                  | exact ih _ g1 (same (fun q => by
                      have := wout_lt hs7 hk7 q.1
                      first
                        | omega
                        | (have := (eW (by omega)).2; omega)))
                  | (refine ih _ (fun c i q => ?_) ?_
                     · rw [up_off q]
                       exact g1 c i q
                     · rw [up_eq]
                       have e1 := eW'.2
                       exact serG_s g2 (by omega) (fun _ _ _ => by omega) (by
                         rcases (by omega : max (L2 (b + 1) ((s + 1 : Nat) : Int)) (L2 (b + 1) ((wout (s + 1) k : Nat) : Int) + L2 (b + 2) (k : Int)) = L2 (b + 1) ((s + 1 : Nat) : Int) ∨ max (L2 (b + 1) ((s + 1 : Nat) : Int)) (L2 (b + 1) ((wout (s + 1) k : Nat) : Int) + L2 (b + 2) (k : Int)) = L2 (b + 1) ((wout (s + 1) k : Nat) : Int) + L2 (b + 2) (k : Int)) with z | z
                         · exact Or.inl z
                         · exact Or.inr ⟨eW'.1, by omega, by omega, by omega⟩))
      refine wk_iload_n (i := 2) (q := 7) dX0_serve_6 rfl rfl rfl ?_
      refine wk_if_le (t := 96) (q := 10) dX0_serve_7 rfl rfl (by omega) (fun hc7 => ?_) (fun hc7 => ?_)
      · omega
      · refine wk_iconst (q := 11) dX0_serve_10 rfl ?_
        refine wk_istore_n (i := 3) (lo' := [(0, _), (1, _), (2, _), (3, _)]) (q := 12) dX0_serve_11 rfl rfl (by decide) rfl ?_
        exact inner 0 (Nat.zero_le _) L1 (fun _ _ _ => rfl) (by rw [f2 (s + 1) (Nat.le_refl _)]; exact serG_0)
  refine Ct.of (lo := [(0, _), (1, _)]) ok_X0_serve (Nat.le_of_ble_eq_true rfl) rfl ?_
  have hz : zShl 1 (N : Int) - 1 = ((2 ^ N - 1 : Nat) : Int) := by
    rcases (by omega : N = 2 ∨ N = 3 ∨ N = 4 ∨ N = 5 ∨ N = 6 ∨ N = 7) with rfl | rfl | rfl | rfl | rfl | rfl <;> decide +kernel
  have hpp : 0 < 2 ^ N := Nat.pow_pos (by decide)
  refine wk_iconst (q := 1) dX0_serve_0 rfl ?_
  refine wk_iload_n (i := 1) (q := 2) dX0_serve_1 rfl rfl rfl ?_
  refine wk_ishl (q := 3) dX0_serve_2 rfl ?_
  refine wk_iconst (q := 4) dX0_serve_3 rfl ?_
  refine wk_isub (q := 5) dX0_serve_4 rfl ?_
  refine wk_istore_n (i := 2) (lo' := [(0, _), (1, _), (2, _)]) (q := 6) dX0_serve_5 rfl rfl (by decide) rfl ?_
  rw [hz]
  exact outer (2 ^ N - 1) (by omega) L (fun _ _ _ => rfl) (fun _ _ => rfl) (fun S h1 h2 => absurd h2 (by omega))
end BEST2S
