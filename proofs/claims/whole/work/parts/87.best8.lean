/-! BEST, the reference finds it -/
theorem rowOk.cg {T : TT} {r r' : Int → Int} (h : rowOk T r) (e : ∀ g : Int, 0 ≤ g → g < T.ng → r g = r' g) : rowOk T r' := by
  refine ⟨fun g g0 g1 => by rw [← e g g0 g1]; exact h.1 g g0 g1, fun d d0 d1 => ?_⟩
  rw [← cntR_congr T.ng.toNat (r := r) (fun j hj => e j (by omega) (by omega))]
  exact h.2 d d0 d1
theorem bdB.br {T : TT} {wt : Int → Int} {g : Nat} {c bs : Int} {t br br' : Int → Int} (hg : (g : Int) < T.ng) (h : bdB T wt g c t bs br) (e : ∀ g : Int, 0 ≤ g → g < T.ng → br g = br' g) : bdB T wt g c t bs br' := by
  have ec : codeR T wt br T.ng.toNat = codeR T wt br' T.ng.toNat := codeR_congr _ (fun j hj => ⟨e j (by omega) (by omega), rfl⟩)
  have ev : valR T wt br T.ng.toNat = valR T wt br' T.ng.toNat := valR_congr _ (fun j hj => e j (by omega) (by omega))
  refine ⟨fun r hr hc => by rw [← ec]; exact h.1 r hr hc, ?_⟩
  rcases h.2 with q | ⟨q0, q1, q2, q3⟩
  · exact Or.inl q
  · refine Or.inr ⟨q0, q1.cg e, by rw [← ev]; exact q2, ?_⟩
    rcases q3 with ⟨k, k1, k2, k3⟩ | ⟨k1, k2⟩
    · exact Or.inl ⟨k, k1, fun j hj => by rw [← e j (by omega) (by omega)]; exact k2 j hj, by rw [← e k (by omega) (by omega)]; exact k3⟩
    · exact Or.inr ⟨fun j hj => by rw [← e j (by omega) (by omega)]; exact k1 j hj, by rw [← e g (by omega) (by omega)]; exact k2⟩
theorem stB.keep {I0 I1 I2 : qI} {m : Nat} {T : TT} (hT : T.ok) {g : Nat} {c sum : Int} (hw : wtok T (I0 (m + 26))) (h : stB I0 I1 m T g (g + 1) c sum) (hx : I1 (m + 27) g = c) (hg : (g : Int) = T.ng - 1) (k1 : sum ≤ I1 m 42 → I2 = I1) (k2 : I1 m 42 < sum → (∀ b i, ¬ (b = m ∧ i = 42) → b ≠ m + 28 → I2 b i = I1 b i) ∧ I2 m 42 = sum ∧ ∀ g, 0 ≤ g → g < T.ng → I2 (m + 28) g = rwT T (I1 (m + 27)) g) : stB I0 I2 m T g (g + 1) (c + 1) sum := by
  obtain ⟨h1, h2, h3, h4, h5⟩ := h
  have eg : g + 1 = T.ng.toNat := by omega
  rw [eg] at h2 h3 h4 ⊢
  have v0 := (valR_in hT hw h2 (by omega) T.ng.toNat (Nat.le_refl _)).1
  rw [← hx] at h5
  have hk := h5.keep hT hg h2 v0
  rw [hx, ← h4] at hk
  by_cases q : sum ≤ I1 m 42
  · rw [k1 q]
    exact ⟨h1, h2, h3, h4, hk.1 q⟩
  · obtain ⟨a1, a2, a3⟩ := k2 (by omega)
    have f7 : I2 (m + 27) = I1 (m + 27) := funext fun i => a1 _ _ (by omega) (by omega)
    refine ⟨fun b i q1 q2 q3 q4 => by rw [a1 _ _ q1 q4]; exact h1 b i q1 q2 q3 q4, by rw [f7]; exact h2, fun e e0 e1 => by rw [f7, a1 _ _ (by omega) (by omega)]; exact h3 e e0 e1, by rw [f7]; exact h4, ?_⟩
    rw [f7, a2]
    exact (hk.2 (by omega)).br (by omega) (fun g g0 g1 => (a3 g g0 g1).symm)
section BEST8
variable {l : Launch} {E : qEv} {n : Nat} {sh : qSh} {I L : qI} {R : qR}
theorem ct_X7_findBest {m : Nat} {T : TT} {C : CC} {la : Int → Int} (hM : qMod E.2.2 n sh R m) (hok : T.ok) (hC : C.now T) (hmT : mT I m T) (hN : mNow I m T C la) :
    Ct l E 1 mX7_findBest [.ref m] (n, sh, I, L, R) 0 0 (qV n sh (fun I' L' R' => L' = L ∧ R' = R ∧ (∀ b i, ¬ (b = m ∧ i = 42) → ¬ (m + 25 ≤ b ∧ b ≤ m + 29) → I' b i = I b i) ∧ bsP T C (I' m 42) (I' (m + 28)))) := by
  have hng := hok.2.1
  have hng0 := hok.1
  have hnd := hok.2.2.2.1
  have hnd0 := hok.2.2.1
  have body : ∀ I0 : qI, (∀ b i, ¬ (m + 25 ≤ b ∧ b ≤ m + 29) → I0 b i = I b i) → isWt T C (I0 (m + 26)) → mfP T (I0 (m + 26)) (I0 (m + 29)) → ∀ N : Nat, ∀ (g : Nat) (sum : Int) (I1 : qI), (g : Int) < T.ng → stB I0 I1 m T g (if 0 ≤ I1 (m + 27) g then g + 1 else g) (I1 (m + 27) g + 1) sum → -1 ≤ I1 (m + 27) g ∧ I1 (m + 27) g ≤ T.nd → muB T (I1 (m + 27)) (g + 1) < N → Wk l E (qmo E 1 n 0 0 (qV n sh (fun I' L' R' => L' = L ∧ R' = R ∧ (∀ b i, ¬ (b = m ∧ i = 42) → ¬ (m + 25 ≤ b ∧ b ≤ m + 29) → I' b i = I b i) ∧ bsP T C (I' m 42) (I' (m + 28))))) mX7_findBest 0 0 24
      [(0, .ref m), (1, .int (zI (g : Int))), (2, .int (zI sum))] [] (n, sh, I1, L, R) := by
    intro I0 f0 hwt hmf
    have hw := hwt.bd hok hC
    have exitW : ∀ (sum : Int) (I1 : qI), (∀ b i, ¬ (b = m ∧ i = 42) → b ≠ m + 25 → b ≠ m + 27 → b ≠ m + 28 → I1 b i = I0 b i) → bdB T (I0 (m + 26)) 0 (T.nd + 1) (I1 (m + 27)) (I1 m 42) (I1 (m + 28)) → Wk l E (qmo E 1 n 0 0 (qV n sh (fun I' L' R' => L' = L ∧ R' = R ∧ (∀ b i, ¬ (b = m ∧ i = 42) → ¬ (m + 25 ≤ b ∧ b ≤ m + 29) → I' b i = I b i) ∧ bsP T C (I' m 42) (I' (m + 28))))) mX7_findBest 0 0 24
        [(0, .ref m), (1, .int (zI (-1))), (2, .int (zI sum))] [] (n, sh, I1, L, R) := by
      intro sum I1 h1 h5
      obtain ⟨a1, a2, a3⟩ := h5.done hok hwt
      refine wk_iload_n (i := 1) (q := 25) dX7_findBest_24 rfl rfl rfl ?_
      refine wk_if_lt (t := 204) (q := 28) dX7_findBest_25 rfl rfl (by omega) (fun hc25 => ?_) (fun hc25 => ?_)
      · refine wk_ret dX7_findBest_204 rfl ⟨Nat.le_refl _, Nat.le_refl _⟩ rfl ?_
        exact ⟨_, _, _, rfl, rfl, rfl, rfl, fun b i q1 q2 => (h1 b i q1 (by omega) (by omega) (by omega)).trans (f0 b i q2), a2, _, hwt, a1, a3⟩
      · omega
    intro N
    induction N with
    | zero =>
      intro g sum I1 hg h ht hmu
      obtain ⟨h1, h2, h3, h4, h5⟩ := h
      have := muB_nn (T := T) (t := I1 (m + 27)) (g + 1) (fun j hj => by
        by_cases z : j = g
        · subst z
          omega
        · have := h2.1 j (by split <;> omega)
          omega)
      omega
    | succ N ih =>
      have lp : ∀ g : Nat, (g : Int) < T.ng → ∀ j : Nat, ∀ c : Int, c + j = T.nd + 1 → 0 ≤ c → ∀ (sum : Int) (I2 : qI), stB I0 I2 m T g g c sum → I2 (m + 27) g = c → muB T (I2 (m + 27)) g + (T.nd + 2 - c) * 16 ^ (7 - g) ≤ N → Wk l E (qmo E 1 n 0 0 (qV n sh (fun I' L' R' => L' = L ∧ R' = R ∧ (∀ b i, ¬ (b = m ∧ i = 42) → ¬ (m + 25 ≤ b ∧ b ≤ m + 29) → I' b i = I b i) ∧ bsP T C (I' m 42) (I' (m + 28))))) mX7_findBest 0 0 72
          [(0, .ref m), (1, .int (zI (g : Int))), (2, .int (zI sum))] [] (n, sh, I2, L, R) := by
        intro g hg j
        have q1 := q16 g
        induction j with
        | zero =>
          intro c hc c0 sum I2 h ht hmu
          have ec : c = T.nd + 1 := by omega
          subst ec
          have hmT2 : mT I2 m T := hmT.cg (fun b i q => (h.1 b i (by omega) (by omega) (by omega) (by omega)).trans (f0 b i (by omega)))
          have e6 := hmT2.2.1
          have pop : Wk l E (qmo E 1 n 0 0 (qV n sh (fun I' L' R' => L' = L ∧ R' = R ∧ (∀ b i, ¬ (b = m ∧ i = 42) → ¬ (m + 25 ≤ b ∧ b ≤ m + 29) → I' b i = I b i) ∧ bsP T C (I' m 42) (I' (m + 28))))) mX7_findBest 0 0 24
              [(0, .ref m), (1, .int (zI ((g : Int) + -1))), (2, .int (zI sum))] [] (n, sh, I2, L, R) := by
            cases g with
            | zero => exact exitW sum I2 h.1 h.2.2.2.2
            | succ g =>
              rw [show ((g + 1 : Nat) : Int) + -1 = (g : Int) by omega]
              obtain ⟨h1, h2, h3, h4, h5⟩ := h
              obtain ⟨b1, b2, b3⟩ := h2.1 g (by omega)
              refine ih g sum I2 (by omega) ⟨h1, ?_, ?_, ?_, h5.pop hok hg⟩ (by omega) (by omega)
              · rw [if_pos b1]
                exact h2
              · rw [if_pos b1]
                exact h3
              · rw [if_pos b1]
                exact h4
          refine wk_aload_n (i := 0) (q := 73) dX7_findBest_72 rfl rfl rfl ?_
          refine wk_getR (fi := 39) (q := 76) dX7_findBest_73 rfl fl_X7_88 rfl rfl hM.ob hM.r39 ?_
          refine wk_iload_n (i := 1) (q := 77) dX7_findBest_76 rfl rfl rfl ?_
          refine wk_iald (q := 78) dX7_findBest_77 rfl hM.s39 (by omega) ?_
          refine wk_aload_n (i := 0) (q := 79) dX7_findBest_78 rfl rfl rfl ?_
          refine wk_getI (fi := 6) (q := 82) dX7_findBest_79 rfl fl_X7_128 rfl rfl hM.ob ?_
          refine wk_icmp_gt (t := 112) (q := 85) dX7_findBest_82 rfl rfl (by omega) (by omega) (fun hc82 => ?_) (fun hc82 => ?_)
          · refine wk_aload_n (i := 0) (q := 113) dX7_findBest_112 rfl rfl rfl ?_
            refine wk_getR (fi := 39) (q := 116) dX7_findBest_113 rfl fl_X7_88 rfl rfl hM.ob hM.r39 ?_
            refine wk_iload_n (i := 1) (q := 117) dX7_findBest_116 rfl rfl rfl ?_
            refine wk_iald (q := 118) dX7_findBest_117 rfl hM.s39 (by omega) ?_
            refine wk_aload_n (i := 0) (q := 119) dX7_findBest_118 rfl rfl rfl ?_
            refine wk_getI (fi := 6) (q := 122) dX7_findBest_119 rfl fl_X7_128 rfl rfl hM.ob ?_
            refine wk_icmp_le (t := 131) (q := 125) dX7_findBest_122 rfl rfl (by omega) (by omega) (fun hc122 => ?_) (fun hc122 => ?_)
            · omega
            · refine wk_iinc (lo' := [(0, _), (1, _), (2, _)]) (q := 128) dX7_findBest_125 rfl rfl (by decide) rfl ?_
              refine wk_goto (t := 24) dX7_findBest_128 rfl ?_
              exact pop
          · omega
        | succ j ihj =>
          intro c hc c0 sum I2 h ht hmu
          have hmT2 : mT I2 m T := hmT.cg (fun b i q => (h.1 b i (by omega) (by omega) (by omega) (by omega)).trans (f0 b i (by omega)))
          have e5 := hmT2.1
          have e6 := hmT2.2.1
          have emf : ∀ i, I2 (m + 29) i = I0 (m + 29) i := fun i => h.1 _ _ (by omega) (by omega) (by omega) (by omega)
          have ewt : I2 (m + 26) = I0 (m + 26) := funext fun i => h.1 _ _ (by omega) (by omega) (by omega) (by omega)
          have go : (c = T.nd ∨ (0 < I2 (m + 25) c ∧ T.wo g c ≠ -1)) → Wk l E (qmo E 1 n 0 0 (qV n sh (fun I' L' R' => L' = L ∧ R' = R ∧ (∀ b i, ¬ (b = m ∧ i = 42) → ¬ (m + 25 ≤ b ∧ b ≤ m + 29) → I' b i = I b i) ∧ bsP T C (I' m 42) (I' (m + 28))))) mX7_findBest 0 0 112
              [(0, .ref m), (1, .int (zI (g : Int))), (2, .int (zI sum))] [] (n, sh, I2, L, R) := by
            intro hal
            have big : ∀ (v : Int) (I3 : qI), v = vtm T (I0 (m + 26)) g (if c = T.nd then -9 else c) → I3 = (if c < T.nd then up I2 (m + 25) c (I2 (m + 25) c - 1) else I2) → Wk l E (qmo E 1 n 0 0 (qV n sh (fun I' L' R' => L' = L ∧ R' = R ∧ (∀ b i, ¬ (b = m ∧ i = 42) → ¬ (m + 25 ≤ b ∧ b ≤ m + 29) → I' b i = I b i) ∧ bsP T C (I' m 42) (I' (m + 28))))) mX7_findBest 0 0 156
                [(0, .ref m), (1, .int (zI (g : Int))), (2, .int (zI (sum + v)))] [] (n, sh, I3, L, R) := by
              intro v I3 hv hI3
              have h3 := h.take ht (by omega) hal hv
              rw [← hI3] at h3
              have f3 : ∀ b i, b ≠ m + 25 → I3 b i = I2 b i := fun b i q => by
                rw [hI3]
                split
                · exact up_na _ _ _ _ q
                · rfl
              have ht3 : I3 (m + 27) g = c := by rw [f3 _ _ (by omega)]; exact ht
              have et3 : I3 (m + 27) = I2 (m + 27) := funext fun i => f3 _ _ (by omega)
              have hmT3 : mT I3 m T := hmT2.cg (fun b i q => f3 b i (by omega))
              have e5 := hmT3.1
              have hs := valR_in hok hw h3.2.1 (by omega) (g + 1) (Nat.le_refl _)
              rw [← h3.2.2.2.1] at hs
              have hb := h3.2.2.2.2.bs hok hw
              have hm1 := hmf.bd (T.ng - ((g : Int) + 1)).toNat (g + 1) (by omega)
              have emf3 : I3 (m + 29) ((g : Int) + 1) = I0 (m + 29) ((g : Int) + 1) := by rw [f3 _ _ (by omega)]; exact emf _
              have z1 : I0 (m + 29) (((g + 1 : Nat) : Int)) = I0 (m + 29) ((g : Int) + 1) := rfl
              rw [z1, ← emf3] at hm1
              have mu1 : muB T (I3 (m + 27)) (g + 1) + 16 ^ (7 - g) ≤ N := by
                show muB T (I3 (m + 27)) g + (T.nd + 1 - I3 (m + 27) g) * 16 ^ (7 - g) + 16 ^ (7 - g) ≤ N
                rw [ht3, et3]
                rw [show T.nd + 2 - c = (T.nd + 1 - c) + 1 by omega, Int.add_mul] at hmu
                omega
              have back : ∀ I4 : qI, stB I0 I4 m T g (g + 1) (c + 1) (sum + v) → I4 (m + 27) = I3 (m + 27) → Wk l E (qmo E 1 n 0 0 (qV n sh (fun I' L' R' => L' = L ∧ R' = R ∧ (∀ b i, ¬ (b = m ∧ i = 42) → ¬ (m + 25 ≤ b ∧ b ≤ m + 29) → I' b i = I b i) ∧ bsP T C (I' m 42) (I' (m + 28))))) mX7_findBest 0 0 24
                  [(0, .ref m), (1, .int (zI (g : Int))), (2, .int (zI (sum + v)))] [] (n, sh, I4, L, R) := by
                intro I4 h4 e4
                have e4g : I4 (m + 27) g = c := by rw [e4]; exact ht3
                refine ih g (sum + v) I4 hg ?_ (by rw [e4g]; omega) (by rw [e4]; omega)
                rw [e4g, if_pos c0]
                exact h4
              have keep : (g : Int) = T.ng - 1 → ∀ I4 : qI, (sum + v ≤ I3 m 42 → I4 = I3) → (I3 m 42 < sum + v → (∀ b i, ¬ (b = m ∧ i = 42) → b ≠ m + 28 → I4 b i = I3 b i) ∧ I4 m 42 = sum + v ∧ ∀ g, 0 ≤ g → g < T.ng → I4 (m + 28) g = rwT T (I3 (m + 27)) g) → Wk l E (qmo E 1 n 0 0 (qV n sh (fun I' L' R' => L' = L ∧ R' = R ∧ (∀ b i, ¬ (b = m ∧ i = 42) → ¬ (m + 25 ≤ b ∧ b ≤ m + 29) → I' b i = I b i) ∧ bsP T C (I' m 42) (I' (m + 28))))) mX7_findBest 0 0 24
                  [(0, .ref m), (1, .int (zI (g : Int))), (2, .int (zI (sum + v)))] [] (n, sh, I4, L, R) := by
                intro hl I4 k1 k2
                refine back I4 (h3.keep hok hw ht3 hl k1 k2) ?_
                by_cases q : sum + v ≤ I3 m 42
                · rw [k1 q]
                · exact funext fun i => (k2 (by omega)).1 _ _ (by omega) (by omega)
              have prune : sum + v + I3 (m + 29) ((g : Int) + 1) ≤ I3 m 42 → Wk l E (qmo E 1 n 0 0 (qV n sh (fun I' L' R' => L' = L ∧ R' = R ∧ (∀ b i, ¬ (b = m ∧ i = 42) → ¬ (m + 25 ≤ b ∧ b ≤ m + 29) → I' b i = I b i) ∧ bsP T C (I' m 42) (I' (m + 28))))) mX7_findBest 0 0 24
                  [(0, .ref m), (1, .int (zI (g : Int))), (2, .int (zI (sum + v)))] [] (n, sh, I3, L, R) := by
                intro hle
                obtain ⟨a1, a2, a3, a4, a5⟩ := h3
                refine back I3 ⟨a1, a2, a3, a4, ?_⟩ rfl
                rw [← ht3] at a5 ⊢
                exact a5.prune hok hmf hg (by omega) (by rw [← a4, ← emf3]; exact hle)
              have deep : (g : Int) ≠ T.ng - 1 → Wk l E (qmo E 1 n 0 0 (qV n sh (fun I' L' R' => L' = L ∧ R' = R ∧ (∀ b i, ¬ (b = m ∧ i = 42) → ¬ (m + 25 ≤ b ∧ b ≤ m + 29) → I' b i = I b i) ∧ bsP T C (I' m 42) (I' (m + 28))))) mX7_findBest 0 0 24
                  [(0, .ref m), (1, .int (zI ((g : Int) + 1))), (2, .int (zI (sum + v)))] [] (n, sh, up I3 (m + 27) ((g : Int) + 1) (-1), L, R) := by
                intro hne
                obtain ⟨a1, a2, a3, a4, a5⟩ := h3
                rw [← ht3] at a5
                have d5 := a5.deep hok (show ((g + 1 : Nat) : Int) < T.ng by omega)
                have d6 := stB.setT (g := g + 1) ⟨a1, a2, a3, a4, d5⟩ (a := g + 1) (Nat.le_refl _) (-1)
                have eq1 : up I3 (m + 27) ((g : Int) + 1) (-1) (m + 27) (((g + 1 : Nat) : Int)) = -1 := up_eq _ _ _ _
                refine ih (g + 1) (sum + v) (up I3 (m + 27) ((g : Int) + 1) (-1)) (by omega) ?_ (by rw [eq1]; omega) ?_
                · rw [eq1, if_neg (by omega)]
                  exact d6
                · show muB T (up I3 (m + 27) ((g : Int) + 1) (-1) (m + 27)) (g + 1) + (T.nd + 1 - up I3 (m + 27) ((g : Int) + 1) (-1) (m + 27) (((g + 1 : Nat) : Int))) * 16 ^ (7 - (g + 1)) < N
                  rw [eq1, muB_congr (t' := I3 (m + 27)) (g + 1) (fun j hj => up_ni _ _ (by omega))]
                  have qs := q16_s (show g < 7 by omega)
                  have q2 := q16 (g + 1)
                  have mm := Int.mul_le_mul_of_nonneg_right (show T.nd + 1 - -1 ≤ 8 by omega) (show 0 ≤ (16 : Int) ^ (7 - (g + 1)) by omega)
                  omega
              refine wk_iload_n (i := 1) (q := 157) dX7_findBest_156 rfl rfl rfl ?_
              refine wk_aload_n (i := 0) (q := 158) dX7_findBest_157 rfl rfl rfl ?_
              refine wk_getI (fi := 5) (q := 161) dX7_findBest_158 rfl fl_X7_125 rfl rfl hM.ob ?_
              refine wk_iconst (q := 162) dX7_findBest_161 rfl ?_
              refine wk_isub (q := 163) dX7_findBest_162 rfl ?_
              refine wk_icmp_ne (t := 174) (q := 166) dX7_findBest_163 rfl rfl (by omega) (by omega) (fun hc163 => ?_) (fun hc163 => ?_)
              · refine wk_iload_n (i := 2) (q := 175) dX7_findBest_174 rfl rfl rfl ?_
                refine wk_aload_n (i := 0) (q := 176) dX7_findBest_175 rfl rfl rfl ?_
                refine wk_getR (fi := 41) (q := 179) dX7_findBest_176 rfl fl_X7_94 rfl rfl hM.ob hM.r41 ?_
                refine wk_iload_n (i := 1) (q := 180) dX7_findBest_179 rfl rfl rfl ?_
                refine wk_iconst (q := 181) dX7_findBest_180 rfl ?_
                refine wk_iadd (q := 182) dX7_findBest_181 rfl ?_
                refine wk_iald (q := 183) dX7_findBest_182 rfl hM.s41 (by omega) ?_
                refine wk_iadd (q := 184) dX7_findBest_183 rfl ?_
                refine wk_aload_n (i := 0) (q := 185) dX7_findBest_184 rfl rfl rfl ?_
                refine wk_getI (fi := 42) (q := 188) dX7_findBest_185 rfl fl_X7_244 rfl rfl hM.ob ?_
                refine wk_icmp_le (t := 24) (q := 191) dX7_findBest_188 rfl rfl (by omega) (by omega) (fun hc188 => ?_) (fun hc188 => ?_)
                · first
                  | exact keep (by omega) _ k1 k2
                  | exact prune (by omega)
                  | exact deep (by omega)
                · refine wk_iinc (lo' := [(0, _), (1, _), (2, _)]) (q := 194) dX7_findBest_191 rfl rfl (by decide) rfl ?_
                  refine wk_aload_n (i := 0) (q := 195) dX7_findBest_194 rfl rfl rfl ?_
                  refine wk_getR (fi := 39) (q := 198) dX7_findBest_195 rfl fl_X7_88 rfl rfl hM.ob hM.r39 ?_
                  refine wk_iload_n (i := 1) (q := 199) dX7_findBest_198 rfl rfl rfl ?_
                  refine wk_iconst (q := 200) dX7_findBest_199 rfl ?_
                  refine wk_iast (q := 201) dX7_findBest_200 rfl hM.s39 (by omega) ?_
                  refine wk_goto (t := 24) dX7_findBest_201 rfl ?_
                  first
                  | exact keep (by omega) _ k1 k2
                  | exact prune (by omega)
                  | exact deep (by omega)
              · refine wk_aload_n (i := 0) (q := 167) dX7_findBest_166 rfl rfl rfl ?_
                refine wk_iload_n (i := 2) (q := 168) dX7_findBest_167 rfl rfl rfl ?_
                refine wk_cV1 (q := 171) dX7_findBest_168 rfl vl_X7_257 ⟨_, _, rfl⟩ hM.ob (ct_X7_keepBest hM hok hmT3 (by omega) (by omega) (fun a a0 a1 => by obtain ⟨k, rfl⟩ := Int.eq_ofNat_of_zero_le a0; have := h3.2.1.1 k (by omega); omega)) (qRo_m ok_X7_keepBest (by decide) (Nat.le_refl _) (Nat.le_refl _)) (Nat.le_of_ble_eq_true rfl) (fun I168 L168 R168 hv168 => ?_)
                obtain ⟨rfl, rfl, k1, k2⟩ := hv168
                refine wk_goto (t := 24) dX7_findBest_171 rfl ?_
                first
                | exact keep (by omega) _ k1 k2
                | exact prune (by omega)
                | exact deep (by omega)
            refine wk_aload_n (i := 0) (q := 113) dX7_findBest_112 rfl rfl rfl ?_
            refine wk_getR (fi := 39) (q := 116) dX7_findBest_113 rfl fl_X7_88 rfl rfl hM.ob hM.r39 ?_
            skip
            refine wk_iload_n (i := 1) (q := 117) dX7_findBest_116 rfl rfl rfl ?_
            refine wk_iald (q := 118) dX7_findBest_117 rfl hM.s39 (by omega) ?_
            refine wk_aload_n (i := 0) (q := 119) dX7_findBest_118 rfl rfl rfl ?_
            refine wk_getI (fi := 6) (q := 122) dX7_findBest_119 rfl fl_X7_128 rfl rfl hM.ob ?_
            refine wk_icmp_le (t := 131) (q := 125) dX7_findBest_122 rfl rfl (by omega) (by omega) (fun hc122 => ?_) (fun hc122 => ?_)
            · refine wk_aload_n (i := 0) (q := 132) dX7_findBest_131 rfl rfl rfl ?_
              refine wk_aload_n (i := 0) (q := 133) dX7_findBest_132 rfl rfl rfl ?_
              refine wk_getR (fi := 39) (q := 136) dX7_findBest_133 rfl fl_X7_88 rfl rfl hM.ob hM.r39 ?_
              refine wk_iload_n (i := 1) (q := 137) dX7_findBest_136 rfl rfl rfl ?_
              refine wk_iald (q := 138) dX7_findBest_137 rfl hM.s39 (by omega) ?_
              refine wk_iconst (q := 139) dX7_findBest_138 rfl ?_
              rw [ht]
              refine wk_cV2 (q := 142) dX7_findBest_139 rfl vl_X7_247 ⟨_, _, rfl⟩ hM.ob (ct_X7_takes hM hok hmT2 (by omega)) (qRo_m ok_X7_takes (by decide) (Nat.le_refl _) (Nat.le_refl _)) (Nat.le_of_ble_eq_true rfl) (fun I139 L139 R139 hv139 => ?_)
              obtain ⟨rfl, rfl, k1⟩ := hv139
              have f3 : ∀ b i, b ≠ m + 25 → I139 b i = I2 b i := fun b i q => by
                rw [k1]
                split
                · exact up_na _ _ _ _ q
                · rfl
              have hmT3 : mT I139 m T := hmT2.cg (fun b i q => f3 b i (by omega))
              refine wk_iload_n (i := 2) (q := 143) dX7_findBest_142 rfl rfl rfl ?_
              refine wk_aload_n (i := 0) (q := 144) dX7_findBest_143 rfl rfl rfl ?_
              refine wk_iload_n (i := 1) (q := 145) dX7_findBest_144 rfl rfl rfl ?_
              refine wk_aload_n (i := 0) (q := 146) dX7_findBest_145 rfl rfl rfl ?_
              refine wk_getR (fi := 39) (q := 149) dX7_findBest_146 rfl fl_X7_88 rfl rfl hM.ob hM.r39 ?_
              refine wk_iload_n (i := 1) (q := 150) dX7_findBest_149 rfl rfl rfl ?_
              refine wk_iald (q := 151) dX7_findBest_150 rfl hM.s39 (by omega) ?_
              rw [f3 _ _ (by omega), ht]
              refine wk_cP2 (q := 154) dX7_findBest_151 rfl vl_X7_251 ⟨_, _, rfl⟩ hM.ob (ct_X7_valueOf hM hok hmT3 (by omega) (by omega)) (qRo_m ok_X7_valueOf (by decide) (Nat.le_refl _) (Nat.le_refl _)) (Nat.le_of_ble_eq_true rfl) (fun v151 hv151 => ?_)
              rw [show I139 (m + 26) = I0 (m + 26) from (funext fun i => f3 _ _ (by omega)).trans ewt] at hv151
              refine wk_iadd (q := 155) dX7_findBest_154 rfl ?_
              refine wk_istore_n (i := 2) (lo' := [(0, _), (1, _), (2, _)]) (q := 156) dX7_findBest_155 rfl rfl (by decide) rfl ?_
              exact big _ _ hv151 k1
            · omega
          have fe : ∀ i, up I2 (m + 27) (g : Int) (c + 1) (m + 25) i = I2 (m + 25) i := fun i => up_na _ _ _ _ (by omega)
          refine wk_aload_n (i := 0) (q := 73) dX7_findBest_72 rfl rfl rfl ?_
          refine wk_getR (fi := 39) (q := 76) dX7_findBest_73 rfl fl_X7_88 rfl rfl hM.ob hM.r39 ?_
          refine wk_iload_n (i := 1) (q := 77) dX7_findBest_76 rfl rfl rfl ?_
          refine wk_iald (q := 78) dX7_findBest_77 rfl hM.s39 (by omega) ?_
          refine wk_aload_n (i := 0) (q := 79) dX7_findBest_78 rfl rfl rfl ?_
          refine wk_getI (fi := 6) (q := 82) dX7_findBest_79 rfl fl_X7_128 rfl rfl hM.ob ?_
          refine wk_icmp_gt (t := 112) (q := 85) dX7_findBest_82 rfl rfl (by omega) (by omega) (fun hc82 => ?_) (fun hc82 => ?_)
          · first
            | exact go hv93
            | omega
          · refine wk_aload_n (i := 0) (q := 86) dX7_findBest_85 rfl rfl rfl ?_
            refine wk_iload_n (i := 1) (q := 87) dX7_findBest_86 rfl rfl rfl ?_
            refine wk_aload_n (i := 0) (q := 88) dX7_findBest_87 rfl rfl rfl ?_
            refine wk_getR (fi := 39) (q := 91) dX7_findBest_88 rfl fl_X7_88 rfl rfl hM.ob hM.r39 ?_
            refine wk_iload_n (i := 1) (q := 92) dX7_findBest_91 rfl rfl rfl ?_
            refine wk_iald (q := 93) dX7_findBest_92 rfl hM.s39 (by omega) ?_
            rw [ht]
            refine wk_cP2 (q := 96) dX7_findBest_93 rfl vl_X7_254 ⟨_, _, rfl⟩ hM.ob (ct_X7_mayHave hM hok hmT2 (by omega) (by omega) (fun q => by have := h.2.2.1 c c0 q; have := cntR_le (r := rwT T (I2 (m + 27))) (e := c) g; have := (hok.2.2.2.2.1 c c0 q); omega)) (qRo_m ok_X7_mayHave (by decide) (Nat.le_refl _) (Nat.le_refl _)) (Nat.le_of_ble_eq_true rfl) (fun v93 hv93 => ?_)
            rcases hv93 with ⟨rfl, hv93⟩ | ⟨rfl, hv93⟩
            · refine wk_if_ne (t := 112) (q := 99) dX7_findBest_96 rfl rfl (by omega) (fun _ => ?_) (fun hq => absurd hq (by decide))
              first
              | exact go hv93
              | omega
            · refine wk_if_ne (t := 112) (q := 99) dX7_findBest_96 rfl rfl (by omega) (fun hq => absurd hq (by decide)) (fun _ => ?_)
              refine wk_aload_n (i := 0) (q := 100) dX7_findBest_99 rfl rfl rfl ?_
              refine wk_getR (fi := 39) (q := 103) dX7_findBest_100 rfl fl_X7_88 rfl rfl hM.ob hM.r39 ?_
              refine wk_iload_n (i := 1) (q := 104) dX7_findBest_103 rfl rfl rfl ?_
              refine wk_dup2 (q := 105) dX7_findBest_104 rfl rfl rfl ?_
              refine wk_iald (q := 106) dX7_findBest_105 rfl hM.s39 (by omega) ?_
              refine wk_iconst (q := 107) dX7_findBest_106 rfl ?_
              refine wk_iadd (q := 108) dX7_findBest_107 rfl ?_
              refine wk_iast (q := 109) dX7_findBest_108 rfl hM.s39 (by omega) ?_
              refine wk_goto (t := 72) dX7_findBest_109 rfl ?_
              rw [ht]
              refine ihj (c + 1) (by omega) (by omega) sum _ ?_ (up_eq _ _ _ _) ?_
              · obtain ⟨a1, a2, a3, a4, a5⟩ := h
                have a6 : stB I0 I2 m T g g (c + 1) sum := ⟨a1, a2, a3, a4, a5.skip hg (by omega) (by
                  by_cases z : T.wo g c = -1
                  · exact Or.inl z
                  · have := a3 c c0 (by omega)
                    exact Or.inr (by omega))⟩
                exact a6.setT (Nat.le_refl _) _
              · rw [muB_congr (t' := I2 (m + 27)) g (fun j hj => up_ni _ _ (by omega))]
                rw [show T.nd + 2 - c = (T.nd + 2 - (c + 1)) + 1 by omega, Int.add_mul] at hmu
                omega
      have mid : ∀ (g : Nat) (sum : Int) (I1 : qI), (g : Int) < T.ng → stB I0 I1 m T g g (I1 (m + 27) g + 1) sum → -1 ≤ I1 (m + 27) g ∧ I1 (m + 27) g ≤ T.nd → muB T (I1 (m + 27)) (g + 1) ≤ N → Wk l E (qmo E 1 n 0 0 (qV n sh (fun I' L' R' => L' = L ∧ R' = R ∧ (∀ b i, ¬ (b = m ∧ i = 42) → ¬ (m + 25 ≤ b ∧ b ≤ m + 29) → I' b i = I b i) ∧ bsP T C (I' m 42) (I' (m + 28))))) mX7_findBest 0 0 62
          [(0, .ref m), (1, .int (zI (g : Int))), (2, .int (zI sum))] [] (n, sh, I1, L, R) := by
        intro g sum I1 hg h ht hmu
        refine wk_aload_n (i := 0) (q := 63) dX7_findBest_62 rfl rfl rfl ?_
        refine wk_getR (fi := 39) (q := 66) dX7_findBest_63 rfl fl_X7_88 rfl rfl hM.ob hM.r39 ?_
        refine wk_iload_n (i := 1) (q := 67) dX7_findBest_66 rfl rfl rfl ?_
        refine wk_dup2 (q := 68) dX7_findBest_67 rfl rfl rfl ?_
        refine wk_iald (q := 69) dX7_findBest_68 rfl hM.s39 (by omega) ?_
        refine wk_iconst (q := 70) dX7_findBest_69 rfl ?_
        refine wk_iadd (q := 71) dX7_findBest_70 rfl ?_
        refine wk_iast (q := 72) dX7_findBest_71 rfl hM.s39 (by omega) ?_
        refine lp g hg (T.nd - I1 (m + 27) g).toNat (I1 (m + 27) g + 1) (by omega) (by omega) sum _ (h.setT (Nat.le_refl _) _) (up_eq _ _ _ _) ?_
        rw [muB_congr (t' := I1 (m + 27)) g (fun j hj => up_ni _ _ (by omega)), show T.nd + 2 - (I1 (m + 27) g + 1) = T.nd + 1 - I1 (m + 27) g by omega]
        exact hmu
      intro g sum I1 hg h ht hmu
      by_cases h0 : 0 ≤ I1 (m + 27) g
      · rw [if_pos h0] at h
        have hmT1 : mT I1 m T := hmT.cg (fun b i q => (h.1 b i (by omega) (by omega) (by omega) (by omega)).trans (f0 b i (by omega)))
        have ewt : I1 (m + 26) = I0 (m + 26) := funext fun i => h.1 _ _ (by omega) (by omega) (by omega) (by omega)
        refine wk_iload_n (i := 1) (q := 25) dX7_findBest_24 rfl rfl rfl ?_
        refine wk_if_lt (t := 204) (q := 28) dX7_findBest_25 rfl rfl (by omega) (fun hc25 => ?_) (fun hc25 => ?_)
        · omega
        · refine wk_aload_n (i := 0) (q := 29) dX7_findBest_28 rfl rfl rfl ?_
          refine wk_getR (fi := 39) (q := 32) dX7_findBest_29 rfl fl_X7_88 rfl rfl hM.ob hM.r39 ?_
          refine wk_iload_n (i := 1) (q := 33) dX7_findBest_32 rfl rfl rfl ?_
          refine wk_iald (q := 34) dX7_findBest_33 rfl hM.s39 (by omega) ?_
          refine wk_if_lt (t := 62) (q := 37) dX7_findBest_34 rfl rfl (by omega) (fun hc34 => ?_) (fun hc34 => ?_)
          · first
            | omega
            | (have h2 := h.undo rfl hv57
               rw [← k1] at h2
               exact mid g _ I45 hg (by rw [e3]; exact h2) (by rw [e3]; omega) (by rw [e3f]; omega))
          · refine wk_aload_n (i := 0) (q := 38) dX7_findBest_37 rfl rfl rfl ?_
            refine wk_aload_n (i := 0) (q := 39) dX7_findBest_38 rfl rfl rfl ?_
            refine wk_getR (fi := 39) (q := 42) dX7_findBest_39 rfl fl_X7_88 rfl rfl hM.ob hM.r39 ?_
            refine wk_iload_n (i := 1) (q := 43) dX7_findBest_42 rfl rfl rfl ?_
            refine wk_iald (q := 44) dX7_findBest_43 rfl hM.s39 (by omega) ?_
            refine wk_iconst (q := 45) dX7_findBest_44 rfl ?_
            refine wk_cV2 (q := 48) dX7_findBest_45 rfl vl_X7_247 ⟨_, _, rfl⟩ hM.ob (ct_X7_takes hM hok hmT1 (by omega)) (qRo_m ok_X7_takes (by decide) (Nat.le_refl _) (Nat.le_refl _)) (Nat.le_of_ble_eq_true rfl) (fun I45 L45 R45 hv45 => ?_)
            obtain ⟨rfl, rfl, k1⟩ := hv45
            have f3 : ∀ b i, b ≠ m + 25 → I45 b i = I1 b i := fun b i q => by
              rw [k1]
              split
              · exact up_na _ _ _ _ q
              · rfl
            have hmT3 : mT I45 m T := hmT1.cg (fun b i q => f3 b i (by omega))
            have e3 : I45 (m + 27) g = I1 (m + 27) g := f3 _ _ (by omega)
            have e3f : I45 (m + 27) = I1 (m + 27) := funext fun i => f3 _ _ (by omega)
            refine wk_iload_n (i := 2) (q := 49) dX7_findBest_48 rfl rfl rfl ?_
            refine wk_aload_n (i := 0) (q := 50) dX7_findBest_49 rfl rfl rfl ?_
            refine wk_iload_n (i := 1) (q := 51) dX7_findBest_50 rfl rfl rfl ?_
            refine wk_aload_n (i := 0) (q := 52) dX7_findBest_51 rfl rfl rfl ?_
            refine wk_getR (fi := 39) (q := 55) dX7_findBest_52 rfl fl_X7_88 rfl rfl hM.ob hM.r39 ?_
            refine wk_iload_n (i := 1) (q := 56) dX7_findBest_55 rfl rfl rfl ?_
            refine wk_iald (q := 57) dX7_findBest_56 rfl hM.s39 (by omega) ?_
            rw [e3]
            refine wk_cP2 (q := 60) dX7_findBest_57 rfl vl_X7_251 ⟨_, _, rfl⟩ hM.ob (ct_X7_valueOf hM hok hmT3 (by omega) (by omega)) (qRo_m ok_X7_valueOf (by decide) (Nat.le_refl _) (Nat.le_refl _)) (Nat.le_of_ble_eq_true rfl) (fun v57 hv57 => ?_)
            rw [show I45 (m + 26) = I0 (m + 26) from (funext fun i => f3 _ _ (by omega)).trans ewt] at hv57
            refine wk_isub (q := 61) dX7_findBest_60 rfl ?_
            refine wk_istore_n (i := 2) (lo' := [(0, _), (1, _), (2, _)]) (q := 62) dX7_findBest_61 rfl rfl (by decide) rfl ?_
            first
            | omega
            | (have h2 := h.undo rfl hv57
               rw [← k1] at h2
               exact mid g _ I45 hg (by rw [e3]; exact h2) (by rw [e3]; omega) (by rw [e3f]; omega))
      · rw [if_neg h0] at h
        refine wk_iload_n (i := 1) (q := 25) dX7_findBest_24 rfl rfl rfl ?_
        refine wk_if_lt (t := 204) (q := 28) dX7_findBest_25 rfl rfl (by omega) (fun hc25 => ?_) (fun hc25 => ?_)
        · omega
        · refine wk_aload_n (i := 0) (q := 29) dX7_findBest_28 rfl rfl rfl ?_
          refine wk_getR (fi := 39) (q := 32) dX7_findBest_29 rfl fl_X7_88 rfl rfl hM.ob hM.r39 ?_
          refine wk_iload_n (i := 1) (q := 33) dX7_findBest_32 rfl rfl rfl ?_
          refine wk_iald (q := 34) dX7_findBest_33 rfl hM.s39 (by omega) ?_
          refine wk_if_lt (t := 62) (q := 37) dX7_findBest_34 rfl rfl (by omega) (fun hc34 => ?_) (fun hc34 => ?_)
          · exact mid g _ I1 hg h ht (by omega)
          · omega
  refine Ct.of (lo := [(0, _)]) ok_X7_findBest (Nat.le_of_ble_eq_true rfl) rfl ?_
  refine wk_aload_n (i := 0) (q := 1) dX7_findBest_0 rfl rfl rfl ?_
  refine wk_cV0 (q := 4) dX7_findBest_1 rfl vl_X7_213 ⟨_, _, rfl⟩ hM.ob (ct_X7_refill hM hok hmT) (qRo_m ok_X7_refill (by decide) (Nat.le_refl _) (Nat.le_refl _)) (Nat.le_of_ble_eq_true rfl) (fun I1 L1 R1 hv1 => ?_)
  obtain ⟨rfl, rfl, f1, f2⟩ := hv1
  have hmT1 : mT I1 m T := hmT.cg (fun b i q => f1 b i (by omega))
  have hN1 : mNow I1 m T C la := hN.cg (fun b i q => f1 b i (by omega))
  refine wk_aload_n (i := 0) (q := 5) dX7_findBest_4 rfl rfl rfl ?_
  refine wk_cV0 (q := 8) dX7_findBest_5 rfl vl_X7_241 ⟨_, _, rfl⟩ hM.ob (ct_X7_layWeights hM hok hC hmT1 hN1) (qRo_m ok_X7_layWeights (by decide) (Nat.le_refl _) (Nat.le_refl _)) (Nat.le_of_ble_eq_true rfl) (fun I5 L5 R5 hv5 => ?_)
  obtain ⟨rfl, rfl, g1, g2, g3⟩ := hv5
  refine wk_aload_n (i := 0) (q := 9) dX7_findBest_8 rfl rfl rfl ?_
  refine wk_iconst (q := 10) dX7_findBest_9 rfl ?_
  refine wk_putI (fi := 42) (q := 13) dX7_findBest_10 rfl fl_X7_244 fw_7_42 rfl rfl hM.ob ?_
  refine wk_iconst (q := 14) dX7_findBest_13 rfl ?_
  refine wk_istore_n (i := 1) (lo' := [(0, _), (1, _)]) (q := 15) dX7_findBest_14 rfl rfl (by decide) rfl ?_
  refine wk_iconst (q := 16) dX7_findBest_15 rfl ?_
  refine wk_istore_n (i := 2) (lo' := [(0, _), (1, _), (2, _)]) (q := 17) dX7_findBest_16 rfl rfl (by decide) rfl ?_
  refine wk_aload_n (i := 0) (q := 18) dX7_findBest_17 rfl rfl rfl ?_
  refine wk_getR (fi := 39) (q := 21) dX7_findBest_18 rfl fl_X7_88 rfl rfl hM.ob hM.r39 ?_
  refine wk_iconst (q := 22) dX7_findBest_21 rfl ?_
  refine wk_iconst (q := 23) dX7_findBest_22 rfl ?_
  refine wk_iast (q := 24) dX7_findBest_23 rfl hM.s39 (by omega) ?_
  have e0 : up (up I5 m 42 (-1)) (m + 27) 0 (-1) (m + 27) (((0 : Nat) : Int)) = -1 := up_eq _ _ _ _
  have fb : ∀ b i, ¬ (b = m ∧ i = 42) → b ≠ m + 27 → up (up I5 m 42 (-1)) (m + 27) 0 (-1) b i = I5 b i := fun b i q1 q2 => by rw [up_na _ _ _ _ q2, up_off q1]
  have z := muB_nn (T := T) (t := up (up I5 m 42 (-1)) (m + 27) 0 (-1) (m + 27)) (0 + 1) (fun j hj => by
    rw [show j = 0 by omega, e0]
    omega)
  refine body I5 (fun b i q => (g1 b i (by omega) (by omega)).trans (f1 b i (by omega))) g2 g3 (muB T (up (up I5 m 42 (-1)) (m + 27) 0 (-1) (m + 27)) (0 + 1) + 1).toNat 0 0 _ (by omega) ?_ (by rw [e0]; omega) (by omega)
  rw [e0, if_neg (by omega)]
  refine ⟨fun b i q1 q2 q3 q4 => fb b i q1 q3, ⟨fun k hk => absurd hk (by omega), fun e e0 e1 => Int.le_trans (show (0 : Int) ≤ 1 by decide) (hok.2.2.2.2.1 e e0 e1).1⟩, fun e e0 e1 => ?_, rfl, ?_⟩
  · rw [fb _ _ (by omega) (by omega), g1 _ _ (by omega) (by omega), f2 e e0 e1]
    exact (Int.sub_zero _).symm
  · rw [show up (up I5 m 42 (-1)) (m + 27) 0 (-1) m 42 = -1 from by rw [up_na _ _ _ _ (by omega)]; exact up_eq _ _ _ _]
    exact bdB.init hok
theorem om_best {m : Nat} {V : VV} {q : Int} (hM : qMod E.2.2 n sh R m) (h : MI I m V) (hq : in32 q) :
    Ct l E 2 mX7_best [.ref m, .int (zI q)] (n, sh, I, L, R) 0 0 (qZ n sh (mpZ m I L R (r_best V q) V)) := by
  have hng := h.1.ng
  have e5 := h.2.2.2.2.2.1.1
  refine Ct.of (lo := [(0, _), (1, _)]) ok_X7_best (Nat.le_of_ble_eq_true rfl) rfl ?_
  refine wk_iload_n (i := 1) (q := 1) dX7_best_0 rfl rfl rfl ?_
  refine wk_iconst (q := 2) dX7_best_1 rfl ?_
  refine wk_aload_n (i := 0) (q := 3) dX7_best_2 rfl rfl rfl ?_
  refine wk_getI (fi := 5) (q := 6) dX7_best_3 rfl fl_X7_125 rfl rfl hM.ob ?_
  refine wk_iconst (q := 7) dX7_best_6 rfl ?_
  refine wk_isub (q := 8) dX7_best_7 rfl ?_
  refine wk_sP3 (q := 11) dX7_best_8 rfl sl_X7_121 (ct_X7_within hq (by omega) (by omega)) (qRo_m ok_X7_within (by decide) (Nat.le_refl _) (Nat.le_refl _)) (Nat.le_of_ble_eq_true rfl) (fun v8 hv8 => ?_)
  rcases hv8 with ⟨rfl, hv8⟩ | ⟨rfl, hv8⟩
  · rw [e5] at hv8
    refine wk_if_ne (t := 16) (q := 14) dX7_best_11 rfl rfl (by omega) (fun _ => ?_) (fun hq => absurd hq (by decide))
    refine wk_aload_n (i := 0) (q := 17) dX7_best_16 rfl rfl rfl ?_
    refine wk_cP0 (q := 20) dX7_best_17 rfl vl_X7_190 ⟨_, _, rfl⟩ hM.ob (ct_X7_isTable hM (by omega)) (qRo_m ok_X7_isTable (by decide) (Nat.le_refl _) (Nat.le_refl _)) (Nat.le_of_ble_eq_true rfl) (fun v17 hv17 => ?_)
    rcases hv17 with ⟨rfl, hv17⟩ | ⟨rfl, hv17⟩
    · rw [e5] at hv17
      refine wk_if_ne (t := 26) (q := 23) dX7_best_20 rfl rfl (by omega) (fun _ => ?_) (fun hq => absurd hq (by decide))
      refine wk_aload_n (i := 0) (q := 27) dX7_best_26 rfl rfl rfl ?_
      refine wk_cV0 (q := 30) dX7_best_27 rfl vl_X7_260 ⟨_, _, rfl⟩ hM.ob (ct_X7_findBest hM (h.1.tab (by omega)).1 (h.1.tab (by omega)).2.1 h.2.2.2.2.2.1 (h.2.2.2.2.2.2 (by omega))) (qRo_m ok_X7_findBest (by decide) (Nat.le_refl _) (Nat.le_refl _)) (Nat.le_of_ble_eq_true rfl) (fun I27 L27 R27 hv27 => ?_)
      obtain ⟨rfl, rfl, f1, f2⟩ := hv27
      obtain ⟨t1, t2, t3⟩ := h.1.tab (by omega)
      obtain ⟨a1, a2⟩ := f2.ans t1 t2
      have h2 : MI I27 m V := h.fld ⟨rfl, rfl, rfl, rfl⟩ ⟨rfl, rfl, rfl, rfl⟩ (fun b i q => f1 b i (by omega) (by omega)) (by rw [f1 _ _ (by omega) (by omega)]; exact h.2.2.1) (by rw [f1 _ _ (by omega) (by omega)]; exact h.2.2.2.1)
      refine wk_iload_n (i := 1) (q := 31) dX7_best_30 rfl rfl rfl ?_
      refine wk_if_ge (t := 41) (q := 34) dX7_best_31 rfl rfl (by omega) (fun hc31 => ?_) (fun hc31 => ?_)
      · refine wk_aload_n (i := 0) (q := 42) dX7_best_41 rfl rfl rfl ?_
        refine wk_getR (fi := 40) (q := 45) dX7_best_42 rfl fl_X7_91 rfl rfl hM.ob hM.r40 ?_
        refine wk_iload_n (i := 1) (q := 46) dX7_best_45 rfl rfl rfl ?_
        refine wk_iald (q := 47) dX7_best_46 rfl hM.s40 (by omega) ?_
        refine wk_iret dX7_best_47 rfl ⟨Nat.le_refl _, Nat.le_refl _⟩ rfl ?_
        refine ⟨_, _, _, _, rfl, rfl, ?_, h2, fun b i q => f1 b i (by omega) (by omega), rfl, rfl⟩
        unfold r_best
        rw [if_neg (by omega), if_neg (by omega)]
        first
          | (rw [if_neg (by omega)]; exact a2 q (by omega) (by omega))
          | (rw [if_pos (by omega)]; exact a1)
      · refine wk_aload_n (i := 0) (q := 35) dX7_best_34 rfl rfl rfl ?_
        refine wk_getI (fi := 42) (q := 38) dX7_best_35 rfl fl_X7_244 rfl rfl hM.ob ?_
        refine wk_goto (t := 47) dX7_best_38 rfl ?_
        refine wk_iret dX7_best_47 rfl ⟨Nat.le_refl _, Nat.le_refl _⟩ rfl ?_
        refine ⟨_, _, _, _, rfl, rfl, ?_, h2, fun b i q => f1 b i (by omega) (by omega), rfl, rfl⟩
        unfold r_best
        rw [if_neg (by omega), if_neg (by omega)]
        first
          | (rw [if_neg (by omega)]; exact a2 q (by omega) (by omega))
          | (rw [if_pos (by omega)]; exact a1)
    · rw [e5] at hv17
      refine wk_if_ne (t := 26) (q := 23) dX7_best_20 rfl rfl (by omega) (fun hq => absurd hq (by decide)) (fun _ => ?_)
      refine wk_bipush (q := 25) dX7_best_23 rfl (by decide +kernel) ?_
      refine wk_iret dX7_best_25 rfl ⟨Nat.le_refl _, Nat.le_refl _⟩ rfl ?_
      refine mp_same h rfl ?_
      unfold r_best
      first
        | rw [if_pos (by omega)]
        | rw [if_neg (by omega), if_pos hv17]
  · rw [e5] at hv8
    refine wk_if_ne (t := 16) (q := 14) dX7_best_11 rfl rfl (by omega) (fun hq => absurd hq (by decide)) (fun _ => ?_)
    refine wk_iconst (q := 15) dX7_best_14 rfl ?_
    refine wk_iret dX7_best_15 rfl ⟨Nat.le_refl _, Nat.le_refl _⟩ rfl ?_
    refine mp_same h rfl ?_
    unfold r_best
    first
      | rw [if_pos (by omega)]
      | rw [if_neg (by omega), if_pos hv17]
end BEST8
