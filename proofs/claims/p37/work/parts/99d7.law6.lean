/-! THE LAW: forgotten, or dined -/
section LAW6
variable {l : Launch} {E : qEv} {Q : List Frame → Array Value → State → State → Prop} {b N : Nat} {xs : Nat → Int32} {n : Nat} {sh : qSh} {x k j : Nat} {cd tn : Int}
theorem lw_t5 {V : VV} {v11 : Int} (hk : k ≤ 600000) (hj : j ≤ 7302250) (hL : LC E.2.2 n sh x) {I L : qI} {R : qR} (hW : NW E n sh x I L R V)
    (K : ∀ I' L' R' V', TW E n sh x I' L' R' V' → V'.T = V.T → V'.th = V.th → V'.so = V.so → V'.sl = V.sl → Wk l E (lwY E Q b N xs) mL k j 898 [(0, .ref b), (1, .ref x), (2, .ref (x + 167)), (3, .ref (x + 168)), (4, .ref (x + 169)), (5, .int (zI cd)), (6, .int (zI V.T.ng)), (7, .ref (x + 170)), (8, .ref (x + 171)), (9, .ref (x + 172)), (10, .int (zI tn))] [] (n, sh, I', L', R')) :
    Wk l E (lwY E Q b N xs) mL k j 748 [(0, .ref b), (1, .ref x), (2, .ref (x + 167)), (3, .ref (x + 168)), (4, .ref (x + 169)), (5, .int (zI cd)), (6, .int (zI V.T.ng)), (7, .ref (x + 170)), (8, .ref (x + 171)), (9, .ref (x + 172)), (10, .int (zI tn)), (11, .int (zI v11))] [] (n, sh, I, L, R) := by
  obtain ⟨cT, cW, cU, cP, cG, cO⟩ := id hL
  have hW0 := hW
  obtain ⟨hC, hp, hA, hz, hB, hG, hGo⟩ := hW
  have hO := hC.isX
  obtain ⟨hT, hNo, hLA⟩ := hC.okk.tab hp
  have hn2 := hT.1
  have hn7 := hT.2.1
  have hd6 := hT.2.2.2.1
  have hx1 := cT.2.1
  have forget : Wk l E (lwY E Q b N xs) mL k j 760 [(0, .ref b), (1, .ref x), (2, .ref (x + 167)), (3, .ref (x + 168)), (4, .ref (x + 169)), (5, .int (zI cd)), (6, .int (zI V.T.ng)), (7, .ref (x + 170)), (8, .ref (x + 171)), (9, .ref (x + 172)), (10, .int (zI tn)), (11, .int (zI v11))] [] (n, sh, I, L, R) := by
    have loop : ∀ m : Nat, m ≤ V.T.ng.toNat → ∀ (I1 : qI) (la1 : Int → Int), CI E.2.2 n sh x I1 L R V → tyA I1 (x + 167) (x + 168) (x + 169) V.T V.C la1 → (∀ q i, E.2.2 + n ≤ q → I1 q i = 0) → (∀ g : Int, 0 ≤ g → g < m → la1 g = -8) → (∀ g : Int, m ≤ g → g < V.T.ng → la1 g = V.la g) → Wk l E (lwY E Q b N xs) mL k j 772 [(0, .ref b), (1, .ref x), (2, .ref (x + 167)), (3, .ref (x + 168)), (4, .ref (x + 169)), (5, .int (zI cd)), (6, .int (zI V.T.ng)), (7, .ref (x + 170)), (8, .ref (x + 171)), (9, .ref (x + 172)), (10, .int (zI tn)), (11, .int (zI v11)), (18, .int (zI (cntL V.la m))), (19, .int (zI m))] [] (n, sh, I1, L, R) := by
      refine up_ind V.T.ng.toNat ?_ ?_
      · intro I1 la1 hC1 hA1 hz1 h1 h2
        have hA2 : tyA I1 (x + 167) (x + 168) (x + 169) V.T V.C (fun _ => -8) := by
          obtain ⟨b0, b1, b2, b3, b4, b5, b6⟩ := hA1
          refine ⟨b0, b1, b2, b3, b4, fun g g0 g1 => ?_, b6⟩
          obtain ⟨c1, c2, c3, c4, c5⟩ := b5 g g0 g1
          exact ⟨c1, c2, c3, c4, c5.trans (h1 g g0 (by omega))⟩
        refine wk_iload (i := 19) (q := 774) dL_law_772 rfl rfl ?_
        refine wk_iload (i := 6) (q := 776) dL_law_774 rfl rfl ?_
        refine wk_icmp_ge (t := 816) (q := 779) dL_law_776 rfl rfl (by omega) (by omega) (fun hc776 => ?_) (fun hc776 => ?_)
        · refine wk_aload_n (i := 1) (q := 817) dL_law_816 rfl rfl rfl ?_
          refine wk_cZ0 (q := 820) dL_law_817 rfl vl_L_85 ⟨_, _, rfl⟩ hO.ob (oc_forget hC1) ⟨Nat.le_of_ble_eq_true rfl, Nat.le_of_ble_eq_true rfl, hk, hj⟩ (Nat.le_of_ble_eq_true rfl) (fun v817 I817 L817 R817 hv817 => ?_)
          obtain ⟨ea, hC2, fI, fR⟩ := hv817
          have w := K I817 L817 R817 _ ⟨hC2, hp, hA2.st (fun i => fI _ i (by omega)) (fun i => fI _ i (by omega)) (fun i => fI _ i (by omega)), fun q i z => (fI q i (by omega)).trans (hz1 q i z)⟩ rfl rfl rfl rfl
          refine wk_iload (i := 18) (q := 822) dL_law_820 rfl rfl ?_
          refine wk_del (i := 19) (lo' := [(0, _), (1, _), (2, _), (3, _), (4, _), (5, _), (6, _), (7, _), (8, _), (9, _), (10, _), (11, _), (18, _)]) rfl ?_
          refine wk_del (i := 18) (lo' := [(0, _), (1, _), (2, _), (3, _), (4, _), (5, _), (6, _), (7, _), (8, _), (9, _), (10, _), (11, _)]) rfl ?_
          refine wk_del (i := 11) (lo' := [(0, _), (1, _), (2, _), (3, _), (4, _), (5, _), (6, _), (7, _), (8, _), (9, _), (10, _)]) rfl ?_
          rw [ea]
          exact wk_icmp_eqS (t := 898) dL_law_822 rfl w
        · omega
      · intro m hm ih I1 la1 hC1 hA1 hz1 h1 h2
        have e1 : I1 (x + 167) (44 + (m : Int)) = V.la m := ((hA1.2.2.2.2.2.1 m (by omega) (by omega)).2.2.2.2).trans (h2 m (by omega) (by omega))
        have b1 := hLA m (by omega) (by omega)
        have cn : cntL V.la (m + 1) = cntL V.la m + if V.la m = -8 then 0 else 1 := rfl
        have w := ih (up I1 (x + 167) (44 + m) (-8)) (u1 la1 m (-8)) (hC1.frm (fun c i z1 z2 => up_na _ _ _ _ (by omega))) (by
          obtain ⟨b0, b1, b2, b3, b4, b5, b6⟩ := hA1
          refine ⟨(up_ni _ _ (by omega)).trans b0, (up_ni _ _ (by omega)).trans b1, (up_ni _ _ (by omega)).trans b2, (up_ni _ _ (by omega)).trans b3, fun d d0 d1 => ?_, fun g g0 g1 => ?_, fun g d g0 g1 d0 d1 => ?_⟩
          · rw [up_ni _ _ (by omega), up_ni _ _ (by omega)]
            exact b4 d d0 d1
          · obtain ⟨c1, c2, c3, c4, c5⟩ := b5 g g0 g1
            refine ⟨(up_ni _ _ (by omega)).trans c1, (up_ni _ _ (by omega)).trans c2, (up_ni _ _ (by omega)).trans c3, (up_ni _ _ (by omega)).trans c4, ?_⟩
            by_cases z : g = m
            · rw [z, up_eq, u1_eq]
            · rw [up_ni _ _ (by omega), u1_ne z]
              exact c5
          · rw [up_na _ _ _ _ (by omega), up_na _ _ _ _ (by omega)]
            exact b6 g d g0 g1 d0 d1) (fun q i z => (up_na _ _ _ _ (by omega)).trans (hz1 q i z)) (fun g g0 g1 => by
          by_cases z : g = m
          · rw [z, u1_eq]
          · rw [u1_ne z]
            exact h1 g g0 (by omega)) (fun g g0 g1 => by
          rw [u1_ne (by omega)]
          exact h2 g (by omega) g1)
        rw [cn] at w
        refine wk_iload (i := 19) (q := 774) dL_law_772 rfl rfl ?_
        refine wk_iload (i := 6) (q := 776) dL_law_774 rfl rfl ?_
        refine wk_icmp_ge (t := 816) (q := 779) dL_law_776 rfl rfl (by omega) (by omega) (fun hc776 => ?_) (fun hc776 => ?_)
        · omega
        · refine wk_iload (i := 18) (q := 781) dL_law_779 rfl rfl ?_
          refine wk_aload_n (i := 2) (q := 782) dL_law_781 rfl rfl rfl ?_
          refine wk_bipush (q := 784) dL_law_782 rfl (by decide +kernel) ?_
          refine wk_iload (i := 19) (q := 786) dL_law_784 rfl rfl ?_
          refine wk_iadd (q := 787) dL_law_786 rfl ?_
          refine wk_iald (q := 788) dL_law_787 rfl cT (by omega) ?_
          rw [e1]
          refine wk_bipush (q := 790) dL_law_788 rfl (by decide +kernel) ?_
          refine wk_icmp_ne (t := 797) (q := 793) dL_law_790 rfl rfl (by omega) (by omega) (fun hc790 => ?_) (fun hc790 => ?_)
          · refine wk_iconst (q := 798) dL_law_797 rfl ?_
            refine wk_iadd (q := 799) dL_law_798 rfl ?_
            refine wk_istore (i := 18) (lo' := [(0, _), (1, _), (2, _), (3, _), (4, _), (5, _), (6, _), (7, _), (8, _), (9, _), (10, _), (11, _), (18, _), (19, _)]) (q := 801) dL_law_799 rfl (by decide) rfl ?_
            refine wk_aload_n (i := 2) (q := 802) dL_law_801 rfl rfl rfl ?_
            refine wk_bipush (q := 804) dL_law_802 rfl (by decide +kernel) ?_
            refine wk_iload (i := 19) (q := 806) dL_law_804 rfl rfl ?_
            refine wk_iadd (q := 807) dL_law_806 rfl ?_
            refine wk_bipush (q := 809) dL_law_807 rfl (by decide +kernel) ?_
            refine wk_iast (q := 810) dL_law_809 rfl cT (by omega) ?_
            refine wk_iinc (lo' := [(0, _), (1, _), (2, _), (3, _), (4, _), (5, _), (6, _), (7, _), (8, _), (9, _), (10, _), (11, _), (18, _), (19, _)]) (q := 813) dL_law_810 rfl rfl (by decide) rfl ?_
            refine wk_goto (t := 772) dL_law_813 rfl ?_
            first
            | (rw [if_pos (by omega)] at w; exact w)
            | (rw [if_neg (by omega)] at w; exact w)
          · refine wk_iconst (q := 794) dL_law_793 rfl ?_
            refine wk_goto (t := 798) dL_law_794 rfl ?_
            refine wk_iadd (q := 799) dL_law_798 rfl ?_
            refine wk_istore (i := 18) (lo' := [(0, _), (1, _), (2, _), (3, _), (4, _), (5, _), (6, _), (7, _), (8, _), (9, _), (10, _), (11, _), (18, _), (19, _)]) (q := 801) dL_law_799 rfl (by decide) rfl ?_
            refine wk_aload_n (i := 2) (q := 802) dL_law_801 rfl rfl rfl ?_
            refine wk_bipush (q := 804) dL_law_802 rfl (by decide +kernel) ?_
            refine wk_iload (i := 19) (q := 806) dL_law_804 rfl rfl ?_
            refine wk_iadd (q := 807) dL_law_806 rfl ?_
            refine wk_bipush (q := 809) dL_law_807 rfl (by decide +kernel) ?_
            refine wk_iast (q := 810) dL_law_809 rfl cT (by omega) ?_
            refine wk_iinc (lo' := [(0, _), (1, _), (2, _), (3, _), (4, _), (5, _), (6, _), (7, _), (8, _), (9, _), (10, _), (11, _), (18, _), (19, _)]) (q := 813) dL_law_810 rfl rfl (by decide) rfl ?_
            refine wk_goto (t := 772) dL_law_813 rfl ?_
            first
            | (rw [if_pos (by omega)] at w; exact w)
            | (rw [if_neg (by omega)] at w; exact w)
    have c0 : ∀ q i, q ≠ x + 167 → cpI I (x + 170) (x + 167) 0 0 (51 : Nat) q i = I q i := fun q i z => if_neg (fun y => z y.1)
    have c1 : ∀ i : Int, 0 ≤ i → i < 51 → cpI I (x + 170) (x + 167) 0 0 (51 : Nat) (x + 167) i = I (x + 170) i := fun i i0 i1 => by
      unfold cpI
      rw [if_pos ⟨rfl, i0, by omega⟩]
      exact congrArg (I (x + 170)) (by omega)
    have w := loop 0 (Nat.zero_le _) (cpI I (x + 170) (x + 167) 0 0 (51 : Nat)) V.la (hC.frm (fun c i z1 z2 => c0 c i (by omega))) (by
      obtain ⟨b0, b1, b2, b3, b4, b5, b6⟩ := hA
      have e : ∀ i : Int, 0 ≤ i → i < 44 → cpI I (x + 170) (x + 167) 0 0 (51 : Nat) (x + 167) i = I (x + 167) i := fun i i0 i1 => (c1 i i0 (by omega)).trans (hB i i0 i1)
      refine ⟨(e _ (by omega) (by omega)).trans b0, (e _ (by omega) (by omega)).trans b1, (e _ (by omega) (by omega)).trans b2, (e _ (by omega) (by omega)).trans b3, fun d d0 d1 => ?_, fun g g0 g1 => ?_, fun g d g0 g1 d0 d1 => ?_⟩
      · rw [e _ (by omega) (by omega), e _ (by omega) (by omega)]
        exact b4 d d0 d1
      · obtain ⟨c1', c2', c3', c4', c5'⟩ := b5 g g0 g1
        exact ⟨(e _ (by omega) (by omega)).trans c1', (e _ (by omega) (by omega)).trans c2', (e _ (by omega) (by omega)).trans c3', (e _ (by omega) (by omega)).trans c4', (c1 _ (by omega) (by omega)).trans (hG g g0 g1).1⟩
      · rw [c0 _ _ (by omega), c0 _ _ (by omega)]
        exact b6 g d g0 g1 d0 d1) (fun q i z => (c0 q i (by omega)).trans (hz q i z)) (fun g g0 g1 => absurd g1 (by omega)) (fun g _ _ => rfl)
    refine wk_aload (i := 7) (q := 762) dL_law_760 rfl rfl ?_
    refine wk_aload_n (i := 2) (q := 763) dL_law_762 rfl rfl rfl ?_
    refine wk_sV2 (q := 766) dL_law_763 rfl sl_L_57 (ct_like cP cT (by omega)) ⟨Nat.le_of_ble_eq_true rfl, Nat.le_of_ble_eq_true rfl, hk, hj⟩ (Nat.le_of_ble_eq_true rfl) (fun I763 L763 R763 hv763 => ?_)
    obtain ⟨rfl, rfl, rfl⟩ := hv763
    refine wk_iconst (q := 767) dL_law_766 rfl ?_
    refine wk_istore (i := 18) (lo' := [(0, _), (1, _), (2, _), (3, _), (4, _), (5, _), (6, _), (7, _), (8, _), (9, _), (10, _), (11, _), (18, _)]) (q := 769) dL_law_767 rfl (by decide) rfl ?_
    refine wk_iconst (q := 770) dL_law_769 rfl ?_
    refine wk_istore (i := 19) (lo' := [(0, _), (1, _), (2, _), (3, _), (4, _), (5, _), (6, _), (7, _), (8, _), (9, _), (10, _), (11, _), (18, _), (19, _)]) (q := 772) dL_law_770 rfl (by decide) rfl ?_
    exact w
  have dine2 : ∀ {v829 : Int} {I2 L2 : qI} {R2 : qR}, v829 = V.ni → CI E.2.2 n sh x I2 L2 R2 ((V.setNi (V.ni + 1)).setLa (evV V).la) → (∀ q i, x + 167 ≤ q → I2 q i = I q i) → Wk l E (lwY E Q b N xs) mL k j 849 [(0, .ref b), (1, .ref x), (2, .ref (x + 167)), (3, .ref (x + 168)), (4, .ref (x + 169)), (5, .int (zI cd)), (6, .int (zI V.T.ng)), (7, .ref (x + 170)), (8, .ref (x + 171)), (9, .ref (x + 172)), (10, .int (zI tn)), (11, .int (zI v11)), (18, .int (zI v829))] [] (n, sh, I2, L2, R2) := by
    intro v829 I2 L2 R2 e4 hC2 f0
    have hW2 : TW E n sh x I2 L2 R2 ((V.setNi (V.ni + 1)).setLa (evV V).la) := ⟨hC2, hp, hA.st (fun i => f0 _ i (by omega)) (fun i => f0 _ i (by omega)) (fun i => f0 _ i (by omega)), fun q i z => (f0 q i (by omega)).trans (hz q i z)⟩
    have w := K I2 L2 R2 _ hW2 rfl rfl rfl rfl
    have guests : ∀ m : Nat, m ≤ V.T.ng.toNat → Wk l E (lwY E Q b N xs) mL k j 866 [(0, .ref b), (1, .ref x), (2, .ref (x + 167)), (3, .ref (x + 168)), (4, .ref (x + 169)), (5, .int (zI cd)), (6, .int (zI V.T.ng)), (7, .ref (x + 170)), (8, .ref (x + 171)), (9, .ref (x + 172)), (10, .int (zI tn)), (11, .int (zI v11)), (18, .int (zI v829)), (19, .int (zI m))] [] (n, sh, I2, L2, R2) := by
      refine up_ind V.T.ng.toNat ?_ ?_
      · skip
        refine wk_iload (i := 19) (q := 868) dL_law_866 rfl rfl ?_
        refine wk_iload (i := 6) (q := 870) dL_law_868 rfl rfl ?_
        refine wk_icmp_ge (t := 898) (q := 873) dL_law_870 rfl rfl (by omega) (by omega) (fun hc870 => ?_) (fun hc870 => ?_)
        · refine wk_del (i := 19) (lo' := [(0, _), (1, _), (2, _), (3, _), (4, _), (5, _), (6, _), (7, _), (8, _), (9, _), (10, _), (11, _), (18, _)]) rfl ?_
          refine wk_del (i := 18) (lo' := [(0, _), (1, _), (2, _), (3, _), (4, _), (5, _), (6, _), (7, _), (8, _), (9, _), (10, _), (11, _)]) rfl ?_
          refine wk_del (i := 11) (lo' := [(0, _), (1, _), (2, _), (3, _), (4, _), (5, _), (6, _), (7, _), (8, _), (9, _), (10, _)]) rfl ?_
          exact w
        · omega
      · intro m hm ih
        have e1 : I2 (x + 167) (44 + (m : Int)) = (evV V).la m := (hW2.2.2.1.2.2.2.2.2.1 m (by omega) (by show (m : Int) < V.T.ng; omega)).2.2.2.2
        refine wk_iload (i := 19) (q := 868) dL_law_866 rfl rfl ?_
        refine wk_iload (i := 6) (q := 870) dL_law_868 rfl rfl ?_
        refine wk_icmp_ge (t := 898) (q := 873) dL_law_870 rfl rfl (by omega) (by omega) (fun hc870 => ?_) (fun hc870 => ?_)
        · omega
        · refine wk_aload_n (i := 1) (q := 874) dL_law_873 rfl rfl rfl ?_
          refine wk_iload (i := 19) (q := 876) dL_law_874 rfl rfl ?_
          refine wk_iconst (q := 877) dL_law_876 rfl ?_
          refine wk_cP2 (q := 880) dL_law_877 rfl vl_L_71 ⟨_, _, rfl⟩ hO.ob (oc_ofGuest hC2 (by omega) (by decide)) ⟨Nat.le_of_ble_eq_true rfl, Nat.le_of_ble_eq_true rfl, hk, hj⟩ (Nat.le_of_ble_eq_true rfl) (fun v877 hv877 => ?_)
          have e5 : v877 = (evV V).la m := by rw [hv877]; unfold r_ofGuest; rw [if_pos ⟨by omega, by show (m : Int) < V.T.ng; omega⟩, if_neg (by decide), if_neg (by decide), if_neg (by decide), if_neg (by decide), if_pos rfl]; rfl
          refine wk_aload_n (i := 2) (q := 881) dL_law_880 rfl rfl rfl ?_
          refine wk_bipush (q := 883) dL_law_881 rfl (by decide +kernel) ?_
          refine wk_iload (i := 19) (q := 885) dL_law_883 rfl rfl ?_
          refine wk_iadd (q := 886) dL_law_885 rfl ?_
          refine wk_iald (q := 887) dL_law_886 rfl cT (by omega) ?_
          rw [e5, e1]
          refine wk_icmp_eqS (t := 892) dL_law_887 rfl ?_
          refine wk_iinc (lo' := [(0, _), (1, _), (2, _), (3, _), (4, _), (5, _), (6, _), (7, _), (8, _), (9, _), (10, _), (11, _), (18, _), (19, _)]) (q := 895) dL_law_892 rfl rfl (by decide) rfl ?_
          refine wk_goto (t := 866) dL_law_895 rfl ?_
          exact ih
    have g0 := guests 0 (Nat.zero_le _)
    have w863 : Wk l E (lwY E Q b N xs) mL k j 863 [(0, .ref b), (1, .ref x), (2, .ref (x + 167)), (3, .ref (x + 168)), (4, .ref (x + 169)), (5, .int (zI cd)), (6, .int (zI V.T.ng)), (7, .ref (x + 170)), (8, .ref (x + 171)), (9, .ref (x + 172)), (10, .int (zI tn)), (11, .int (zI v11)), (18, .int (zI v829))] [] (n, sh, I2, L2, R2) := by
      refine wk_iconst (q := 864) dL_law_863 rfl ?_
      refine wk_istore (i := 19) (lo' := [(0, _), (1, _), (2, _), (3, _), (4, _), (5, _), (6, _), (7, _), (8, _), (9, _), (10, _), (11, _), (18, _), (19, _)]) (q := 866) dL_law_864 rfl (by decide) rfl ?_
      exact g0
    refine wk_aload_n (i := 1) (q := 850) dL_law_849 rfl rfl rfl ?_
    refine wk_iconst (q := 851) dL_law_850 rfl ?_
    refine wk_cP1 (q := 854) dL_law_851 rfl vl_L_89 ⟨_, _, rfl⟩ hO.ob (oc_many hC2 (by decide)) ⟨Nat.le_of_ble_eq_true rfl, Nat.le_of_ble_eq_true rfl, hk, hj⟩ (Nat.le_of_ble_eq_true rfl) (fun v851 hv851 => ?_)
    have e6 : v851 = V.ni + 1 := by rw [hv851]; unfold r_many; rw [if_neg (by decide), if_neg (by decide), if_neg (by decide), if_neg (by decide), if_pos rfl]; rfl
    refine wk_iload (i := 18) (q := 856) dL_law_854 rfl rfl ?_
    refine wk_iconst (q := 857) dL_law_856 rfl ?_
    refine wk_iadd (q := 858) dL_law_857 rfl ?_
    rw [e6, e4]
    rw [e4] at w863
    exact wk_icmp_eqS (t := 863) dL_law_858 rfl w863
  have dine : Wk l E (lwY E Q b N xs) mL k j 827 [(0, .ref b), (1, .ref x), (2, .ref (x + 167)), (3, .ref (x + 168)), (4, .ref (x + 169)), (5, .int (zI cd)), (6, .int (zI V.T.ng)), (7, .ref (x + 170)), (8, .ref (x + 171)), (9, .ref (x + 172)), (10, .int (zI tn)), (11, .int (zI v11))] [] (n, sh, I, L, R) := by
    refine wk_aload_n (i := 1) (q := 828) dL_law_827 rfl rfl rfl ?_
    refine wk_iconst (q := 829) dL_law_828 rfl ?_
    refine wk_cP1 (q := 832) dL_law_829 rfl vl_L_89 ⟨_, _, rfl⟩ hO.ob (oc_many hC (by decide)) ⟨Nat.le_of_ble_eq_true rfl, Nat.le_of_ble_eq_true rfl, hk, hj⟩ (Nat.le_of_ble_eq_true rfl) (fun v829 hv829 => ?_)
    have e4 : v829 = V.ni := by rw [hv829]; unfold r_many; rw [if_neg (by decide), if_neg (by decide), if_neg (by decide), if_neg (by decide), if_pos rfl]
    refine wk_istore (i := 18) (lo' := [(0, _), (1, _), (2, _), (3, _), (4, _), (5, _), (6, _), (7, _), (8, _), (9, _), (10, _), (11, _), (18, _)]) (q := 834) dL_law_832 rfl (by decide) rfl ?_
    refine wk_aload_n (i := 1) (q := 835) dL_law_834 rfl rfl rfl ?_
    refine wk_cZ0 (q := 838) dL_law_835 rfl vl_L_92 ⟨_, _, rfl⟩ hO.ob (oc_dine hC) ⟨Nat.le_of_ble_eq_true rfl, Nat.le_of_ble_eq_true rfl, hk, hj⟩ (Nat.le_of_ble_eq_true rfl) (fun v835 I835 L835 R835 hv835 => ?_)
    obtain ⟨ea, hC2, fI, fR⟩ := hv835
    have er : v835 = sumI (evV V).gl V.T.ng.toNat := by
      rw [ea]
      unfold r_dine
      exact if_pos hp
    have es : s_dine V = (V.setNi (V.ni + 1)).setLa (evV V).la := by
      unfold s_dine
      exact if_pos hp
    rw [es] at hC2
    have f0 : ∀ q i, x + 167 ≤ q → I835 q i = I q i := fun q i z => fI q i (by omega)
    have b5 := hA.2.2.2.2.2.1
    have hod := hNo.1.2.2.2.2.2.2.2.2.1
    have hoi := hNo.1.2.2.2.2.2.2.2.2.2.1
    rw [hNo.2.1] at hod hoi
    have oT : ∀ q, 0 ≤ q → q < V.T.ng → I835 (x + 167) (37 + q) = V.C.od q := fun q q0 q1 => (f0 _ _ (by omega)).trans (b5 q q0 q1).2.2.2.1
    have ev : sumI (fun q => I835 (x + 171) (I835 (x + 167) (37 + q))) V.T.ng.toNat = sumI (evV V).gl V.T.ng.toNat := by
      refine (sumI_congr _ (fun q q0 q1 => ?_)).trans (sumI_perm (f := (evV V).gl) (od := V.C.od) (fun q q0 q1 => ?_) (fun s s' s0 s1 s0' s1' => hoi s s' s0 (by omega) s0' (by omega)) (fun g g0 g1 => ?_))
      · show I835 (x + 171) (I835 (x + 167) (37 + q)) = (evV V).gl (V.C.od q)
        rw [oT q q0 (by omega), f0 _ _ (by omega)]
        have hq := hod q q0 (by omega)
        exact (hG _ hq.1 hq.2).2.1
      · have hq := hod q q0 (by omega)
        omega
      · obtain ⟨s, s0, s1, s2⟩ := hNo.2.2.2.2 g g0 (by omega)
        exact ⟨s, s0, by omega, s2⟩
    refine wk_aload_n (i := 2) (q := 839) dL_law_838 rfl rfl rfl ?_
    refine wk_iload (i := 6) (q := 841) dL_law_839 rfl rfl ?_
    refine wk_aload (i := 8) (q := 843) dL_law_841 rfl rfl ?_
    refine wk_sP3 (q := 846) dL_law_843 rfl sl_L_95 (ct_all cT cG ⟨by omega, by omega⟩ (fun q q0 q1 => by rw [oT q q0 q1]; have := hod q q0 q1; omega)) ⟨Nat.le_of_ble_eq_true rfl, Nat.le_of_ble_eq_true rfl, hk, hj⟩ (Nat.le_of_ble_eq_true rfl) (fun v843 hv843 => ?_)
    rw [hv843, er, ev]
    refine wk_icmp_neS (q := 849) dL_law_846 rfl rfl ?_
    exact dine2 e4 hC2 f0
  refine wk_iload (i := 11) (q := 750) dL_law_748 rfl rfl ?_
  refine wk_bipush (q := 752) dL_law_750 rfl (by decide +kernel) ?_
  refine wk_ishr (q := 753) dL_law_752 rfl ?_
  refine wk_iconst (q := 754) dL_law_753 rfl ?_
  refine wk_sP2 (q := 757) dL_law_754 rfl sl_L_15 (ct_some ⟨by omega, by omega⟩) ⟨Nat.le_of_ble_eq_true rfl, Nat.le_of_ble_eq_true rfl, hk, hj⟩ (Nat.le_of_ble_eq_true rfl) (fun v754 hv754 => ?_)
  refine wk_if_ne (t := 827) (q := 760) dL_law_757 rfl rfl (by omega) (fun hc757 => ?_) (fun hc757 => ?_)
  · exact dine
  · exact forget
end LAW6
