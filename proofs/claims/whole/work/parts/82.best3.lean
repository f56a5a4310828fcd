/-! BEST, the class finds it -/
theorem DPok.bd {T : TT} (hT : T.ok) {wt cap M : Int → Int} (hw : wtok T wt) (h : DPok T wt cap M) {S : Nat} (hS : S < 2 ^ T.ng.toNat) : -1 ≤ M S ∧ M S ≤ 12033000000 := by
  have hng := hT.2.1
  have hng0 := hT.1
  rcases (h S hS).2 with q | ⟨r, r1, r2⟩
  · omega
  · have := codeR_in hT hw r1.rg T.ng.toNat (by omega)
    omega
theorem DPok.cg {T : TT} {wt cap cap' M : Int → Int} (h : DPok T wt cap M) (hc : ∀ e, 0 ≤ e → e < T.nd → cap e = cap' e) : DPok T wt cap' M := by
  intro S hS
  refine ⟨fun r hr => (h S hS).1 r ⟨hr.1, fun e e0 e1 => by rw [hc e e0 e1]; exact hr.2 e e0 e1⟩, ?_⟩
  rcases (h S hS).2 with q | ⟨r, r1, r2⟩
  · exact Or.inl q
  · exact Or.inr ⟨r, ⟨r1.1, fun e e0 e1 => by rw [← hc e e0 e1]; exact r1.2 e e0 e1⟩, r2⟩
theorem code_none {T : TT} {wt : Int → Int} : ∀ n : Nat, codeR T wt (fun _ => -9) n = 0
  | 0 => rfl
  | n + 1 => by rw [codeR_s, code_none n]; rfl
theorem cnt_none {d : Int} (hd : 0 ≤ d) : ∀ n : Nat, cntR (fun _ => -9) d n = 0
  | 0 => rfl
  | n + 1 => by
    show cntR (fun _ => -9) d n + (if (-9 : Int) = d then 1 else 0) = 0
    rw [cnt_none hd n, if_neg (by omega)]
    rfl
theorem DPok.m0 {T : TT} {wt cap M : Int → Int} (h : DPok T wt cap M) (hc : ∀ e, 0 ≤ e → e < T.nd → 0 ≤ cap e) : 0 ≤ M ((0 : Nat) : Int) := by
  have := (h 0 (Nat.pow_pos (by decide))).1 (fun _ => -9) ⟨fun g _ => Or.inr ⟨Nat.zero_testBit g, rfl⟩, fun d d0 d1 => by rw [cnt_none d0]; exact hc d d0 d1⟩
  rw [code_none] at this
  exact this
theorem serP.cg {n : Nat} {G G' M M' : Int → Int} (h : serP n G M M') (hG : ∀ g : Nat, g < n → G g = G' g) : serP n G' M M' := by
  intro S hS
  obtain ⟨a, b, c⟩ := h S hS
  refine ⟨a, fun g g1 => by rw [← hG g g1]; exact b g g1, ?_⟩
  rcases c with q | ⟨g, g1, g2⟩
  · exact Or.inl q
  · exact Or.inr ⟨g, g1, by rw [← hG g g1]; exact g2⟩
def capF (T : TT) (d p : Int) : Int → Int := fun e => if e < d then min (T.mn e) T.ng else if e = d then p else 0
theorem capF_s {T : TT} {d : Int} : capF T d (min (T.mn d) T.ng) = capF T (d + 1) 0 := funext fun e => by
  unfold capF
  by_cases c : e < d
  · rw [if_pos c, if_pos (by omega)]
  · rw [if_neg c]
    by_cases q : e = d
    · subst q
      rw [if_pos rfl, if_pos (by omega)]
    · rw [if_neg q, if_neg (by omega)]
      split <;> rfl
theorem gain_bd {T : TT} (hT : T.ok) {wt : Int → Int} (hw : wtok T wt) {d : Int} (hd : 0 ≤ d ∧ d < T.nd) {g : Nat} (hg : (g : Int) < T.ng) : -1 ≤ gainF T wt d g ∧ gainF T wt d g ≤ 1719000000 := by
  unfold gainF
  split
  · omega
  · rename_i q
    have := trm_in hT hw hg (Or.inr ⟨hd.1, hd.2, q⟩)
    unfold trm at this
    rw [if_neg (by omega)] at this
    rw [Int.toNat_natCast]
    omega
section BEST3
variable {l : Launch} {E : qEv} {n : Nat} {sh : qSh} {I L : qI} {R : qR}
theorem ct_X0_find {b t o : Nat} {T : TT} {C : CC} (hB : qBest E.2.2 n sh R b) (hT : qTab E.2.2 n sh R t o) (hd : o + 14 ≤ t ∧ t + 38 ≤ b) (hok : T.ok) (hC : C.now T) (hsT : shT I o T) (hsC : shC I t T C) :
    Ct l E 2 mX0_find [.ref b, .ref t] (n, sh, I, L, R) 0 0 (qV n sh (fun I' L' R' => R' = R ∧ (∀ c i, ¬ (c = b ∧ i = 0) → c ≠ b + 3 → I' c i = I c i) ∧ I' b 0 = 1 ∧ isBest T C (L' b 4))) := by
  have hng := hok.2.1
  have hng0 := hok.1
  have hnd := hok.2.2.2.1
  have hnd0 := hok.2.2.1
  have h128 := pow_ng hok
  have body : ∀ I2 : qI, (∀ c i, c ≠ b + 3 → I2 c i = I c i) → isWt T C (I2 (b + 3)) → ∀ L0 : qI, DPok T (I2 (b + 3)) (capF T ((0 : Nat) : Int) 0) (L0 (b + 1)) → (∀ S : Nat, 2 ^ T.ng.toNat ≤ S → S < 128 → L0 (b + 1) S = -1) → Wk l E (qmo E 2 n 0 0 (qV n sh (fun I' L' R' => R' = R ∧ (∀ c i, ¬ (c = b ∧ i = 0) → c ≠ b + 3 → I' c i = I c i) ∧ I' b 0 = 1 ∧ isBest T C (L' b 4)))) mX0_find 0 0 24
      [(0, .ref b), (1, .ref t), (2, .int (zI ((0 : Nat) : Int)))] [] (n, sh, I2, L0, R) := by
    intro I2 f1 hwt
    have hw := hwt.bd hok hC
    have hs2 : shT I2 o T := hsT.cg hng (fun c i _ _ => f1 c i (by omega))
    have e6 := hs2.1
    have e7 := hs2.2.1
    have fin : ∀ k : Nat, k ≤ 128 → ∀ L3 : qI, DPok T (I2 (b + 3)) (capF T T.nd 0) (L3 (b + 1)) → (∀ S : Nat, 2 ^ T.ng.toNat ≤ S → S < 128 → L3 (b + 1) S = -1) → 0 ≤ L3 b 4 → (∀ S : Nat, S < k → L3 (b + 1) S ≤ L3 b 4) → (L3 b 4 = 0 ∨ ∃ S : Nat, S < k ∧ L3 b 4 = L3 (b + 1) S) → Wk l E (qmo E 2 n 0 0 (qV n sh (fun I' L' R' => R' = R ∧ (∀ c i, ¬ (c = b ∧ i = 0) → c ≠ b + 3 → I' c i = I c i) ∧ I' b 0 = 1 ∧ isBest T C (L' b 4)))) mX0_find 0 0 103
        [(0, .ref b), (1, .ref t), (2, .int (zI (k : Int)))] [] (n, sh, I2, L3, R) := by
      refine up_ind 128 ?_ ?_
      · intro L3 g1 g2 g3 g4 g5
        have best : isBest T C (L3 b 4) := by
          refine DP_end hok hwt (g1.cg (fun e e0 e1 => by unfold capF; rw [if_pos e1])) (fun S hS => g4 S (by omega)) g3 ?_ (g1.m0 (fun e e0 e1 => by unfold capF; rw [if_pos e1]; have := (hok.2.2.2.2.1 e e0 e1).1; omega))
          rcases g5 with q | ⟨S, s1, s2⟩
          · exact Or.inl q
          · by_cases c : S < 2 ^ T.ng.toNat
            · exact Or.inr ⟨S, c, s2⟩
            · have := g2 S (by omega) s1
              omega
        refine wk_iload_n (i := 2) (q := 104) dX0_find_103 rfl rfl rfl ?_
        refine wk_aload_n (i := 0) (q := 105) dX0_find_104 rfl rfl rfl ?_
        refine wk_getR (fi := 1) (q := 108) dX0_find_105 rfl fl_X0_9 rfl rfl hB.ob hB.r1 ?_
        refine wk_alen (q := 109) dX0_find_108 rfl hB.s1 (by decide) ?_
        refine wk_icmp_ge (t := 135) (q := 112) dX0_find_109 rfl rfl (by omega) (by omega) (fun hc109 => ?_) (fun hc109 => ?_)
        · refine wk_aload_n (i := 0) (q := 136) dX0_find_135 rfl rfl rfl ?_
          refine wk_iconst (q := 137) dX0_find_136 rfl ?_
          refine wk_putZ (fi := 0) (q := 140) dX0_find_137 rfl fl_X0_74 fw_0_0 rfl (by omega) rfl hB.ob ?_
          refine wk_ret dX0_find_140 rfl ⟨Nat.le_refl _, Nat.le_refl _⟩ rfl ?_
          exact ⟨_, _, _, rfl, rfl, rfl, fun c i q1 q2 => by rw [up_off q1]; exact f1 c i q2, up_eq _ _ _ _, best⟩
        · omega
      · intro k hk ih L3 g1 g2 g3 g4 g5
        have bm : -1 ≤ L3 (b + 1) (k : Int) ∧ L3 (b + 1) (k : Int) ≤ 12033000000 := by
          by_cases c : k < 2 ^ T.ng.toNat
          · exact g1.bd hok hw c
          · have := g2 k (by omega) hk
            omega
        have bz : L3 b 4 ≤ 12033000000 := by
          rcases g5 with q | ⟨S, s1, s2⟩
          · omega
          · by_cases c : S < 2 ^ T.ng.toNat
            · have := g1.bd hok hw c
              omega
            · have := g2 S (by omega) (by omega)
              omega
        have fe : ∀ v : Int, up L3 b 4 v (b + 1) = L3 (b + 1) := fun v => funext fun i => up_na _ _ _ _ (by omega)
        refine wk_iload_n (i := 2) (q := 104) dX0_find_103 rfl rfl rfl ?_
        refine wk_aload_n (i := 0) (q := 105) dX0_find_104 rfl rfl rfl ?_
        refine wk_getR (fi := 1) (q := 108) dX0_find_105 rfl fl_X0_9 rfl rfl hB.ob hB.r1 ?_
        refine wk_alen (q := 109) dX0_find_108 rfl hB.s1 (by decide) ?_
        refine wk_icmp_ge (t := 135) (q := 112) dX0_find_109 rfl rfl (by omega) (by omega) (fun hc109 => ?_) (fun hc109 => ?_)
        · omega
        · refine wk_aload_n (i := 0) (q := 113) dX0_find_112 rfl rfl rfl ?_
          refine wk_aload_n (i := 0) (q := 114) dX0_find_113 rfl rfl rfl ?_
          refine wk_getJ (fi := 4) (q := 117) dX0_find_114 rfl fl_X0_66 rfl rfl hB.ob ?_
          refine wk_aload_n (i := 0) (q := 118) dX0_find_117 rfl rfl rfl ?_
          refine wk_getR (fi := 1) (q := 121) dX0_find_118 rfl fl_X0_9 rfl rfl hB.ob hB.r1 ?_
          refine wk_iload_n (i := 2) (q := 122) dX0_find_121 rfl rfl rfl ?_
          refine wk_lald (q := 123) dX0_find_122 rfl hB.s1 (by omega) ?_
          refine wk_max (q := 126) dX0_find_123 rfl w_mx_0 (by omega) (by omega) (Nat.le_of_ble_eq_true rfl) (Nat.le_of_ble_eq_true rfl) ⟨Nat.le_refl _, Nat.le_refl _⟩ ?_
          refine wk_putJ (fi := 4) (q := 129) dX0_find_126 rfl fl_X0_66 fw_0_4 rfl rfl hB.ob ?_
          refine wk_iinc (lo' := [(0, _), (1, _), (2, _)]) (q := 132) dX0_find_129 rfl rfl (by decide) rfl ?_
          refine wk_goto (t := 103) dX0_find_132 rfl ?_
          refine ih _ (by rw [fe]; exact g1) (fun S h1 h2 => by rw [fe]; exact g2 S h1 h2) (by rw [up_eq]; omega) (fun S hS => ?_) ?_
          · rw [fe, up_eq]
            by_cases e : S = k
            · subst e
              omega
            · have := g4 S (by omega)
              omega
          · rw [fe, up_eq]
            rcases (by omega : max (L3 b 4) (L3 (b + 1) (k : Int)) = L3 b 4 ∨ max (L3 b 4) (L3 (b + 1) (k : Int)) = L3 (b + 1) (k : Int)) with z | z
            · rw [z]
              rcases g5 with q | ⟨S, s1, s2⟩
              · exact Or.inl q
              · exact Or.inr ⟨S, by omega, s2⟩
            · exact Or.inr ⟨k, by omega, z⟩
    have outer : ∀ d : Nat, d ≤ T.nd.toNat → ∀ L1 : qI, DPok T (I2 (b + 3)) (capF T d 0) (L1 (b + 1)) → (∀ S : Nat, 2 ^ T.ng.toNat ≤ S → S < 128 → L1 (b + 1) S = -1) → Wk l E (qmo E 2 n 0 0 (qV n sh (fun I' L' R' => R' = R ∧ (∀ c i, ¬ (c = b ∧ i = 0) → c ≠ b + 3 → I' c i = I c i) ∧ I' b 0 = 1 ∧ isBest T C (L' b 4)))) mX0_find 0 0 24
        [(0, .ref b), (1, .ref t), (2, .int (zI (d : Int)))] [] (n, sh, I2, L1, R) := by
      refine up_ind T.nd.toNat ?_ ?_
      · intro L1 g1 g2
        have fe : ∀ v : Int, up L1 b 4 v (b + 1) = L1 (b + 1) := fun v => funext fun i => up_na _ _ _ _ (by omega)
        have en : ((T.nd.toNat : Nat) : Int) = T.nd := by omega
        rw [en] at g1
        refine wk_iload_n (i := 2) (q := 25) dX0_find_24 rfl rfl rfl ?_
        refine wk_aload_n (i := 1) (q := 26) dX0_find_25 rfl rfl rfl ?_
        refine wk_getR (fi := 0) (q := 29) dX0_find_26 rfl fl_X0_34 rfl rfl hT.1.ob hT.2.1 ?_
        refine wk_getI (fi := 6) (q := 32) dX0_find_29 rfl fl_X0_40 rfl rfl hT.2.2.ob ?_
        refine wk_icmp_ge (t := 96) (q := 35) dX0_find_32 rfl rfl (by omega) (by omega) (fun hc32 => ?_) (fun hc32 => ?_)
        · refine wk_aload_n (i := 0) (q := 97) dX0_find_96 rfl rfl rfl ?_
          refine wk_lconst (z := 0) (q := 98) dX0_find_97 rfl rfl ?_
          refine wk_putJ (fi := 4) (q := 101) dX0_find_98 rfl fl_X0_66 fw_0_4 rfl rfl hB.ob ?_
          refine wk_iconst (q := 102) dX0_find_101 rfl ?_
          refine wk_istore_n (i := 2) (lo' := [(0, _), (1, _), (2, _)]) (q := 103) dX0_find_102 rfl rfl (by decide) rfl ?_
          exact fin 0 (Nat.zero_le _) _ (by rw [fe]; exact g1) (fun S h1 h2 => by rw [fe]; exact g2 S h1 h2) (by rw [up_eq]; omega) (fun S hS => absurd hS (by omega)) (Or.inl (up_eq _ _ _ _))
        · omega
      · intro d hd ih L1 g1 g2
        have hmn := (hok.2.2.2.2.1 (d : Int) (by omega) (by omega)).1
        have hmn2 := (hok.2.2.2.2.1 (d : Int) (by omega) (by omega)).2.1
        have e1 : I2 (o + 1) (d : Int) = T.mn d := (hs2.2.2.1 (d : Int) (by omega) (by omega)).1
        obtain ⟨P, hP⟩ : ∃ P : Nat, min (T.mn d) T.ng = (P : Int) := ⟨(min (T.mn d) T.ng).toNat, by omega⟩
        have inner : ∀ p : Nat, p ≤ P → ∀ L2 : qI, DPok T (I2 (b + 3)) (capF T d p) (L2 (b + 1)) → (∀ S : Nat, 2 ^ T.ng.toNat ≤ S → S < 128 → L2 (b + 1) S = -1) → (∀ g : Nat, (g : Int) < T.ng → L2 (b + 2) g = gainF T (I2 (b + 3)) d g) → Wk l E (qmo E 2 n 0 0 (qV n sh (fun I' L' R' => R' = R ∧ (∀ c i, ¬ (c = b ∧ i = 0) → c ≠ b + 3 → I' c i = I c i) ∧ I' b 0 = 1 ∧ isBest T C (L' b 4)))) mX0_find 0 0 67
            [(0, .ref b), (1, .ref t), (2, .int (zI (d : Int))), (3, .int (zI (P : Int))), (4, .int (zI (p : Int)))] [] (n, sh, I2, L2, R) := by
          refine up_ind P ?_ ?_
          · intro L2 k1 k2 k3
            refine wk_iload (i := 4) (q := 69) dX0_find_67 rfl rfl ?_
            refine wk_iload_n (i := 3) (q := 70) dX0_find_69 rfl rfl rfl ?_
            refine wk_icmp_ge (t := 90) (q := 73) dX0_find_70 rfl rfl (by omega) (by omega) (fun hc70 => ?_) (fun hc70 => ?_)
            · refine wk_iinc (lo' := [(0, _), (1, _), (2, _), (3, _), (4, _)]) (q := 93) dX0_find_90 rfl rfl (by decide) rfl ?_
              refine wk_goto (t := 24) dX0_find_93 rfl ?_
              refine wk_del (i := 4) (lo' := [(0, _), (1, _), (2, _), (3, _)]) rfl ?_
              refine wk_del (i := 3) (lo' := [(0, _), (1, _), (2, _)]) rfl ?_
              exact ih _ (by rw [← hP, capF_s] at k1; exact k1) k2
            · omega
          · intro p hp ih2 L2 k1 k2 k3
            have en : ((T.ng.toNat : Nat) : Int) = T.ng := by omega
            refine wk_iload (i := 4) (q := 69) dX0_find_67 rfl rfl ?_
            refine wk_iload_n (i := 3) (q := 70) dX0_find_69 rfl rfl rfl ?_
            refine wk_icmp_ge (t := 90) (q := 73) dX0_find_70 rfl rfl (by omega) (by omega) (fun hc70 => ?_) (fun hc70 => ?_)
            · omega
            · refine wk_aload_n (i := 0) (q := 74) dX0_find_73 rfl rfl rfl ?_
              refine wk_aload_n (i := 1) (q := 75) dX0_find_74 rfl rfl rfl ?_
              refine wk_getR (fi := 0) (q := 78) dX0_find_75 rfl fl_X0_34 rfl rfl hT.1.ob hT.2.1 ?_
              refine wk_getI (fi := 7) (q := 81) dX0_find_78 rfl fl_X0_53 rfl rfl hT.2.2.ob ?_
              rw [e7, ← en]
              refine wk_cV1 (q := 84) dX0_find_81 rfl vl_X0_62 ⟨_, _, rfl⟩ hB.ob (ct_X0_serve (N := T.ng.toNat) hB (by omega) (fun S hS => by have := k1.bd hok hw hS; omega) (fun g hg => by rw [k3 g (by omega)]; have := gain_bd hok hw (show 0 ≤ (d : Int) ∧ (d : Int) < T.nd by omega) (show (g : Int) < T.ng by omega); omega)) (qRo_m ok_X0_serve (by decide) (Nat.le_refl _) (Nat.le_refl _)) (Nat.le_of_ble_eq_true rfl) (fun I81 L81 R81 hv81 => ?_)
              obtain ⟨rfl, rfl, m1, m2⟩ := hv81
              refine wk_iinc (lo' := [(0, _), (1, _), (2, _), (3, _), (4, _)]) (q := 87) dX0_find_84 rfl rfl (by decide) rfl ?_
              refine wk_goto (t := 67) dX0_find_87 rfl ?_
              refine ih2 _ ?_ (fun S h1 h2 => by rw [m1 _ _ (by omega)]; exact k2 S h1 h2) (fun g hg => by rw [m1 _ _ (by omega)]; exact k3 g hg)
              exact DP_step hok (d := (d : Int)) (by omega) hw (by unfold capF; rw [if_neg (by omega), if_pos rfl]; omega) (by unfold capF; rw [if_neg (by omega), if_pos rfl, if_neg (by omega), if_pos rfl]; omega) (fun e q => by unfold capF; rw [if_neg q, if_neg q]) k1 (m2.cg (fun g hg => k3 g (by omega)))
        refine wk_iload_n (i := 2) (q := 25) dX0_find_24 rfl rfl rfl ?_
        refine wk_aload_n (i := 1) (q := 26) dX0_find_25 rfl rfl rfl ?_
        refine wk_getR (fi := 0) (q := 29) dX0_find_26 rfl fl_X0_34 rfl rfl hT.1.ob hT.2.1 ?_
        refine wk_getI (fi := 6) (q := 32) dX0_find_29 rfl fl_X0_40 rfl rfl hT.2.2.ob ?_
        refine wk_icmp_ge (t := 96) (q := 35) dX0_find_32 rfl rfl (by omega) (by omega) (fun hc32 => ?_) (fun hc32 => ?_)
        · omega
        · refine wk_aload_n (i := 0) (q := 36) dX0_find_35 rfl rfl rfl ?_
          refine wk_aload_n (i := 1) (q := 37) dX0_find_36 rfl rfl rfl ?_
          refine wk_getR (fi := 0) (q := 40) dX0_find_37 rfl fl_X0_34 rfl rfl hT.1.ob hT.2.1 ?_
          refine wk_iload_n (i := 2) (q := 41) dX0_find_40 rfl rfl rfl ?_
          refine wk_cV2 (q := 44) dX0_find_41 rfl vl_X0_46 ⟨_, _, rfl⟩ hB.ob (ct_X0_reckonGains hB hT.2.2 hok hs2 hw (show 0 ≤ (d : Int) ∧ (d : Int) < T.nd by omega)) (qRo_m ok_X0_reckonGains (by decide) (Nat.le_refl _) (Nat.le_refl _)) (Nat.le_of_ble_eq_true rfl) (fun I41 L41 R41 hv41 => ?_)
          obtain ⟨rfl, rfl, m1, m2⟩ := hv41
          refine wk_aload_n (i := 1) (q := 45) dX0_find_44 rfl rfl rfl ?_
          refine wk_getR (fi := 0) (q := 48) dX0_find_45 rfl fl_X0_34 rfl rfl hT.1.ob hT.2.1 ?_
          refine wk_getR (fi := 0) (q := 51) dX0_find_48 rfl fl_X0_50 rfl rfl hT.2.2.ob hT.2.2.r0 ?_
          refine wk_iload_n (i := 2) (q := 52) dX0_find_51 rfl rfl rfl ?_
          refine wk_iald (q := 53) dX0_find_52 rfl hT.2.2.s0 (by omega) ?_
          refine wk_aload_n (i := 1) (q := 54) dX0_find_53 rfl rfl rfl ?_
          refine wk_getR (fi := 0) (q := 57) dX0_find_54 rfl fl_X0_34 rfl rfl hT.1.ob hT.2.1 ?_
          refine wk_getI (fi := 7) (q := 60) dX0_find_57 rfl fl_X0_53 rfl rfl hT.2.2.ob ?_
          rw [e1, e7]
          refine wk_min (q := 63) dX0_find_60 rfl w_mi_0 (by omega) (by omega) (Nat.le_of_ble_eq_true rfl) (Nat.le_of_ble_eq_true rfl) ⟨Nat.le_refl _, Nat.le_refl _⟩ ?_
          rw [hP]
          refine wk_istore_n (i := 3) (lo' := [(0, _), (1, _), (2, _), (3, _)]) (q := 64) dX0_find_63 rfl rfl (by decide) rfl ?_
          refine wk_iconst (q := 65) dX0_find_64 rfl ?_
          refine wk_istore (i := 4) (lo' := [(0, _), (1, _), (2, _), (3, _), (4, _)]) (q := 67) dX0_find_65 rfl (by decide) rfl ?_
          refine inner 0 (Nat.zero_le _) _ ?_ (fun S h1 h2 => by rw [m1 _ _ (by omega)]; exact g2 S h1 h2) m2
          rw [show L41 (b + 1) = L1 (b + 1) from funext fun i => m1 _ _ (by omega)]
          exact g1
    exact outer 0 (Nat.zero_le _)
  refine Ct.of (lo := [(0, _), (1, _)]) ok_X0_find (Nat.le_of_ble_eq_true rfl) rfl ?_
  have hpp : 0 < 2 ^ T.ng.toNat := Nat.pow_pos (by decide)
  refine wk_aload_n (i := 0) (q := 1) dX0_find_0 rfl rfl rfl ?_
  refine wk_aload_n (i := 1) (q := 2) dX0_find_1 rfl rfl rfl ?_
  refine wk_cV1 (q := 5) dX0_find_2 rfl vl_X0_22 ⟨_, _, rfl⟩ hB.ob (ct_X0_weigh hB hT hd hok hC hsT hsC) (qRo_m ok_X0_weigh (by decide) (Nat.le_refl _) (Nat.le_refl _)) (Nat.le_of_ble_eq_true rfl) (fun I2 L2 R2 hv2 => ?_)
  obtain ⟨f1, rfl, rfl, hwt⟩ := hv2
  refine wk_aload_n (i := 0) (q := 6) dX0_find_5 rfl rfl rfl ?_
  refine wk_getR (fi := 1) (q := 9) dX0_find_6 rfl fl_X0_9 rfl rfl hB.ob hB.r1 ?_
  refine wk_ldc2 (z := (-1)) (q := 12) dX0_find_9 rfl (v := (-1)) (qtb_in 588 (by decide +kernel) (by decide +kernel)) rfl ?_
  refine wk_sV2 (q := 15) dX0_find_12 rfl sl_X0_28 (ct_fillJ hB.s1) (qRo_m ok_J7_fill_d0a16 (by decide) (Nat.le_refl _) (Nat.le_refl _)) (Nat.le_of_ble_eq_true rfl) (fun I12 L12 R12 hv12 => ?_)
  obtain ⟨rfl, rfl, rfl⟩ := hv12
  refine wk_aload_n (i := 0) (q := 16) dX0_find_15 rfl rfl rfl ?_
  refine wk_getR (fi := 1) (q := 19) dX0_find_16 rfl fl_X0_9 rfl rfl hB.ob hB.r1 ?_
  refine wk_iconst (q := 20) dX0_find_19 rfl ?_
  refine wk_lconst (z := 0) (q := 21) dX0_find_20 rfl rfl ?_
  refine wk_last (q := 22) dX0_find_21 rfl hB.s1 (by omega) ?_
  refine wk_iconst (q := 23) dX0_find_22 rfl ?_
  refine wk_istore_n (i := 2) (lo' := [(0, _), (1, _), (2, _)]) (q := 24) dX0_find_23 rfl rfl (by decide) rfl ?_
  refine body _ f1 hwt _ ((DP_0 ?_ ?_).cg (fun e e0 _ => by unfold capF; rw [if_neg (by omega)]; split <;> rfl)) (fun S h1 h2 => ?_)
  · exact up_eq _ _ _ _
  · intro S h1 h2
    rw [up_ni _ _ (by omega)]
    exact fillI_in (by omega)
  · rw [up_ni _ _ (by omega)]
    exact fillI_in (by omega)
end BEST3
