/-! THE LAW: the last questions; the turns -/
/-- behind the turns; cell 0 of sheet 1 -/
def FV (E : qEv) (n : Nat) (sh : qSh) (x : Nat) (I L : qI) (R : qR) (T : TT) (C : CC) (w : Int) : Prop := ∃ V, CI E.2.2 n sh x I L R V ∧ V.T = T ∧ V.C = C ∧ V.th 1 = 1 ∧ V.so 1 = 2 ∧ V.sl 1 = 58 ∧ V.ce 1 0 = w
def FP (E : qEv) (n : Nat) (sh : qSh) (x : Nat) (I : qI) (T : TT) (C : CC) (w r : Int) : Int → qI → qI → qR → Prop := fun v I' L' R' => v = r ∧ FV E n sh x I' L' R' T C w ∧ ∀ i, I' (x + 167) i = I (x + 167) i
section FV
variable {l : Launch} {E : qEv} {n : Nat} {sh : qSh} {x : Nat} {I L : qI} {R : qR} {T : TT} {C : CC} {w : Int}
theorem fv_put {v : Int} (h : FV E n sh x I L R T C w) (hv : in32 v) : Ct l E 1 mX6_put [.ref x, .int (zI 1), .int (zI 0), .int (zI v)] (n, sh, I, L, R) 0 0 (qZ n sh (FP E n sh x I T C v 1)) := by
  obtain ⟨V, hC, hT, hCc, h1, h2, h3, h4⟩ := h
  refine (oc_put hC (by decide) (by decide) hv).mono ?_
  rintro r S' ⟨v', I', L', R', rfl, rfl, e, hC', fI, fR⟩
  have er : r_put V 1 0 = 1 := by
    unfold r_put
    rw [if_neg (by omega), if_neg (fun z => z h1), if_pos (by omega)]
  have es : s_put V 1 0 v = (V.setFa 0).setSh V.th V.so V.sl (u2 V.ce 1 0 v) := by
    unfold s_put
    rw [if_neg (by omega), if_neg (fun z => z h1), if_pos (by omega)]
    unfold cutS
    rw [h2, if_neg (by decide), if_neg (by decide)]
  rw [es] at hC'
  exact ⟨_, I', L', R', rfl, rfl, e.trans er, ⟨_, hC', hT, hCc, h1, h2, h3, (show u2 V.ce 1 0 v 1 0 = v from u2_eq _ _ _ _)⟩, fun i => fI _ i (by omega)⟩
theorem fv_judge {so i z r : Int} (h : FV E n sh x I L R T C w) (hso : in32 so) (hi : in32 i) (hz : in32 z) (hr : ∀ V : VV, V.ok → V.T = T → V.C = C → V.th 1 = 1 → V.so 1 = 2 → V.sl 1 = 58 → V.ce 1 0 = w → r_judge V 1 so i z = r) : Ct l E 5 mX6_judge [.ref x, .int (zI 1), .int (zI so), .int (zI i), .int (zI z)] (n, sh, I, L, R) 0 0 (qZ n sh (FP E n sh x I T C w r)) := by
  obtain ⟨V, hC, hT, hCc, h1, h2, h3, h4⟩ := h
  refine (oc_judge hC (by decide) hso hi hz).mono ?_
  rintro r S' ⟨v', I', L', R', rfl, rfl, e, hC', fI, fR⟩
  exact ⟨_, I', L', R', rfl, rfl, e.trans (hr V hC.okk hT hCc h1 h2 h3 h4), ⟨_, hC', hT, hCc, h1, h2, h3, h4⟩, fun i => fI _ i (by omega)⟩
theorem fv_gets {g c : Int} (h : FV E n sh x I L R T C w) (hg : in32 g) (hc : in32 c) (hq : ¬ ((0 ≤ g ∧ g < T.ng) ∧ 0 ≤ c ∧ c < C.co)) : Ct l E 5 mX6_gets [.ref x, .int (zI g), .int (zI c)] (n, sh, I, L, R) 0 0 (qZ n sh (FP E n sh x I T C w (-1))) := by
  obtain ⟨V, hC, rfl, rfl, h1, h2, h3, h4⟩ := h
  refine (oc_gets hC hg hc).mono ?_
  rintro r S' ⟨v', I', L', R', rfl, rfl, e, hC', fI, fR⟩
  have er : r_gets V g c = -1 := by
    unfold r_gets
    exact if_neg hq
  exact ⟨_, I', L', R', rfl, rfl, e.trans er, ⟨_, hC', rfl, rfl, h1, h2, h3, h4⟩, fun i => fI _ i (by omega)⟩
theorem fv_glad {g : Int} (h : FV E n sh x I L R T C w) (hg : in32 g) (hq : ¬ (0 ≤ g ∧ g < T.ng)) : Ct l E 5 mX6_glad [.ref x, .int (zI g)] (n, sh, I, L, R) 0 0 (qZ n sh (FP E n sh x I T C w (-1))) := by
  obtain ⟨V, hC, rfl, rfl, h1, h2, h3, h4⟩ := h
  refine (oc_glad hC hg).mono ?_
  rintro r S' ⟨v', I', L', R', rfl, rfl, e, hC', fI, fR⟩
  have er : r_glad V g = -1 := by
    unfold r_glad
    exact if_neg hq
  exact ⟨_, I', L', R', rfl, rfl, e.trans er, ⟨_, hC', rfl, rfl, h1, h2, h3, h4⟩, fun i => fI _ i (by omega)⟩
theorem fv_pays {g a p : Int} (h : FV E n sh x I L R T C w) (hg : in32 g) (ha : in32 a) (hp : in32 p) (hq : ¬ ((0 ≤ g ∧ g < T.ng) ∧ (p = 0 ∨ p = 1))) : Ct l E 5 mX6_pays [.ref x, .int (zI g), .int (zI a), .int (zI p)] (n, sh, I, L, R) 0 0 (qJ n sh (FP E n sh x I T C w (-9223372036854775808))) := by
  obtain ⟨V, hC, rfl, rfl, h1, h2, h3, h4⟩ := h
  refine (oc_pays hC hg ha hp).mono ?_
  rintro r S' ⟨v', I', L', R', rfl, rfl, e, hC', fI, fR⟩
  have er : r_pays V g a p = -9223372036854775808 := by
    unfold r_pays
    exact if_neg hq
  exact ⟨_, I', L', R', rfl, rfl, e.trans er, ⟨_, hC', rfl, rfl, h1, h2, h3, h4⟩, fun i => fI _ i (by omega)⟩
theorem fv_step {v : Int} (h : FV E n sh x I L R T C w) (hv : in32 v) (hq : ¬ (1 ≤ v ∧ v ≤ T.ng - 1)) : Ct l E 1 mX6_step [.ref x, .int (zI v)] (n, sh, I, L, R) 0 0 (qZ n sh (FP E n sh x I T C w (-2))) := by
  obtain ⟨V, hC, rfl, rfl, h1, h2, h3, h4⟩ := h
  refine (oc_step hC hv).mono ?_
  rintro r S' ⟨v', I', L', R', rfl, rfl, e, hC', fI, fR⟩
  have er : r_step V v = -2 := by
    unfold r_step
    exact if_neg hq
  have es : s_step V v = V := by
    unfold s_step
    exact if_neg hq
  rw [es] at hC'
  exact ⟨_, I', L', R', rfl, rfl, e.trans er, ⟨_, hC', rfl, rfl, h1, h2, h3, h4⟩, fun i => fI _ i (by omega)⟩
theorem fv_courses {v : Int} (h : FV E n sh x I L R T C w) (hv : in32 v) (hq : ¬ (1 ≤ v ∧ v ≤ 8)) : Ct l E 1 mX6_courses [.ref x, .int (zI v)] (n, sh, I, L, R) 0 0 (qZ n sh (FP E n sh x I T C w (-2))) := by
  obtain ⟨V, hC, rfl, rfl, h1, h2, h3, h4⟩ := h
  refine (oc_courses hC hv).mono ?_
  rintro r S' ⟨v', I', L', R', rfl, rfl, e, hC', fI, fR⟩
  have er : r_courses V v = -2 := by
    unfold r_courses
    exact if_pos hq
  have es : s_courses V v = V := by
    unfold s_courses
    exact if_pos hq
  rw [es] at hC'
  exact ⟨_, I', L', R', rfl, rfl, e.trans er, ⟨_, hC', rfl, rfl, h1, h2, h3, h4⟩, fun i => fI _ i (by omega)⟩
theorem fv_swap {g g2 : Int} (h : FV E n sh x I L R T C w) (hg : in32 g) (hg2 : in32 g2) (hq : ¬ ((0 ≤ g ∧ g < T.ng) ∧ 0 ≤ g2 ∧ g2 < T.ng)) : Ct l E 1 mX6_swap [.ref x, .int (zI g), .int (zI g2)] (n, sh, I, L, R) 0 0 (qZ n sh (FP E n sh x I T C w (-1))) := by
  obtain ⟨V, hC, rfl, rfl, h1, h2, h3, h4⟩ := h
  refine (oc_swap hC hg hg2).mono ?_
  rintro r S' ⟨v', I', L', R', rfl, rfl, e, hC', fI, fR⟩
  have er : r_swap V g g2 = -1 := by
    unfold r_swap
    exact if_neg hq
  have es : s_swap V g g2 = V := by
    unfold s_swap
    exact if_neg hq
  rw [es] at hC'
  exact ⟨_, I', L', R', rfl, rfl, e.trans er, ⟨_, hC', rfl, rfl, h1, h2, h3, h4⟩, fun i => fI _ i (by omega)⟩
theorem fv_say {g d v r : Int} (h : FV E n sh x I L R T C w) (hg : in32 g) (hd : in32 d) (hv : in32 v) (hc : (r = -1 ∧ ¬ ((0 ≤ g ∧ g < T.ng) ∧ 0 ≤ d ∧ d < T.nd)) ∨ (r = -2 ∧ ((0 ≤ g ∧ g < T.ng) ∧ 0 ≤ d ∧ d < T.nd) ∧ ¬ (0 ≤ v ∧ v ≤ 9))) : Ct l E 1 mX6_say [.ref x, .int (zI g), .int (zI d), .int (zI v)] (n, sh, I, L, R) 0 0 (qZ n sh (FP E n sh x I T C w r)) := by
  obtain ⟨V, hC, rfl, rfl, h1, h2, h3, h4⟩ := h
  refine (oc_say hC hg hd hv).mono ?_
  rintro r S' ⟨v', I', L', R', rfl, rfl, e, hC', fI, fR⟩
  rcases hc with ⟨y0, y1⟩ | ⟨y0, y1, y2⟩
  · have er : r_say V g d v = -1 := by
      unfold r_say
      exact if_pos y1
    have es : s_say V g d v = V := by
      unfold s_say
      exact if_pos y1
    rw [es] at hC'
    exact ⟨_, I', L', R', rfl, rfl, (e.trans er).trans y0.symm, ⟨_, hC', rfl, rfl, h1, h2, h3, h4⟩, fun i => fI _ i (by omega)⟩
  · have er : r_say V g d v = -2 := by
      unfold r_say
      rw [if_neg (fun z => z y1), if_pos y2]
    have es : s_say V g d v = V := by
      unfold s_say
      rw [if_neg (fun z => z y1), if_pos y2]
    rw [es] at hC'
    exact ⟨_, I', L', R', rfl, rfl, (e.trans er).trans y0.symm, ⟨_, hC', rfl, rfl, h1, h2, h3, h4⟩, fun i => fI _ i (by omega)⟩
end FV
section LAW7
variable {l : Launch} {E : qEv} {Q : List Frame → Array Value → State → State → Prop} {b N : Nat} {xs : Nat → Int32} {n : Nat} {sh : qSh} {x k j : Nat} {cd tn : Int}
/-- the last questions -/
theorem lw_fin {V : VV} (hk : k ≤ 600000) (hj : j ≤ 7302250) (hL : LC E.2.2 n sh x) {I L : qI} {R : qR} (hW : TW E n sh x I L R V) (th1 : V.th 1 = 1) (so1 : V.so 1 = 2) (sl1 : V.sl 1 = 58)
    (Ke : ∀ (lo : List (Nat × Value)) (S' : qS), Wk l E (lwY E Q b N xs) mL k j 1156 lo [.int (zI 1)] S') : Wk l E (lwY E Q b N xs) mL k j 904 [(0, .ref b), (1, .ref x), (2, .ref (x + 167)), (3, .ref (x + 168)), (4, .ref (x + 169)), (5, .int (zI cd)), (6, .int (zI V.T.ng)), (7, .ref (x + 170)), (8, .ref (x + 171)), (9, .ref (x + 172)), (10, .int (zI tn))] [] (n, sh, I, L, R) := by
  obtain ⟨cT, cW, cU, cP, cG, cO⟩ := id hL
  obtain ⟨hC, hp, hA, hz⟩ := hW
  have hO := hC.isX
  obtain ⟨hT, hNo, hLA⟩ := hC.okk.tab hp
  have hn2 := hT.1
  have hn7 := hT.2.1
  have hd6 := hT.2.2.2.1
  have hd2 := hT.2.2.1
  have hco : V.C.co ≤ 8 := hNo.1.2.2.2.2.2.1
  have hco1 : 1 ≤ V.C.co := hNo.1.2.2.2.2.1
  have zz := row_z ⟨hco1, hco⟩ ⟨hn2, hn7⟩
  have b1 := hA.2.1
  have b3 := hA.2.2.2.1
  have hF : FV E n sh x I L R V.T V.C (V.ce 1 0) := ⟨V, hC, rfl, rfl, th1, so1, sl1, rfl⟩
  have a0 : ∀ i, I (x + 167) i = I (x + 167) i := fun _ => rfl
  have bad : ∀ V' : VV, V'.T = V.T → V'.C = V.C → V'.th 1 = 1 → V'.so 1 = 2 → V'.sl 1 = 58 → (V'.ce 1 0 ≠ -9 ∧ ¬ (0 ≤ V'.ce 1 0 ∧ V'.ce 1 0 < V.T.nd)) → r_judge V' 1 2 0 1 = -1 := by
    intro V' hTt hCt t1 s1 z1 c1
    have hr := refR_z (V := V') (k := 1) (so := 2) (i := 0) (z := 1) (by omega) (by omega) t1 s1 (by omega) (by omega)
    have hb : badN V' 1 0 1 = 1 := by
      show (if badN V' 1 0 0 = 1 then 1 else if jc V' 1 0 ((0 : Nat) : Int) ≠ -9 ∧ ¬ (0 ≤ jc V' 1 0 ((0 : Nat) : Int) ∧ jc V' 1 0 ((0 : Nat) : Int) < V'.T.nd) then 1 else 0) = 1
      rw [if_neg (by show ¬ ((0 : Int) = 1); decide), hTt]
      exact if_pos c1
    unfold r_judge
    rw [if_neg (fun q => q hr), if_neg (by rw [hTt]; omega), if_neg (by rw [hTt, hCt]; omega)]
    exact if_pos hb
  have j1 : ∀ V' : VV, V'.ok → V'.T = V.T → V'.C = V.C → V'.th 1 = 1 → V'.so 1 = 2 → V'.sl 1 = 58 → V'.ce 1 0 = V.T.nd → r_judge V' 1 2 0 1 = -1 := fun V' _ y1 y2 y3 y4 y5 y6 => bad V' y1 y2 y3 y4 y5 (by rw [y6]; omega)
  have j2 : ∀ V' : VV, V'.ok → V'.T = V.T → V'.C = V.C → V'.th 1 = 1 → V'.so 1 = 2 → V'.sl 1 = 58 → V'.ce 1 0 = -1 → r_judge V' 1 2 0 1 = -1 := fun V' _ y1 y2 y3 y4 y5 y6 => bad V' y1 y2 y3 y4 y5 (by rw [y6]; omega)
  have j3 : ∀ V' : VV, V'.ok → V'.T = V.T → V'.C = V.C → V'.th 1 = 1 → V'.so 1 = 2 → V'.sl 1 = 58 → V'.ce 1 0 = -1 → r_judge V' 1 2 0 (V.C.co * V.T.ng + 1) = -2 := fun V' _ y1 y2 y3 y4 y5 y6 => by
    have hr := refR_z (V := V') (k := 1) (so := 2) (i := 0) (z := V.C.co * V.T.ng + 1) (by omega) (by omega) y3 y4 (by omega) (by omega)
    unfold r_judge
    rw [if_neg (fun q => q hr), if_neg (by rw [y1]; omega)]
    exact if_pos (by rw [y1, y2]; omega)
  have j4 : ∀ V' : VV, V'.ok → V'.T = V.T → V'.C = V.C → V'.th 1 = 1 → V'.so 1 = 2 → V'.sl 1 = 58 → V'.ce 1 0 = -1 → r_judge V' 1 1 0 1 = -12 := fun V' _ y1 y2 y3 y4 y5 y6 => by
    have hr : refR V' 1 1 0 1 = -12 := by
      unfold refR
      rw [if_neg (by omega), if_neg (by omega), if_neg (fun q => q y3), if_pos (by rw [y4]; decide)]
    unfold r_judge
    rw [if_pos (by rw [hr]; decide)]
    exact hr
  have j5 : ∀ V' : VV, V'.ok → V'.T = V.T → V'.C = V.C → V'.th 1 = 1 → V'.so 1 = 2 → V'.sl 1 = 58 → V'.ce 1 0 = -1 → r_judge V' 1 2 1 58 = -13 := fun V' _ y1 y2 y3 y4 y5 y6 => by
    have hr : refR V' 1 2 1 58 = -13 := by
      unfold refR
      rw [if_neg (by omega), if_neg (by omega), if_neg (fun q => q y3), if_neg (fun q => q y4), if_neg (by omega), if_neg (by omega)]
    unfold r_judge
    rw [if_pos (by rw [hr]; decide)]
    exact hr
  have j6 : ∀ V' : VV, V'.ok → V'.T = V.T → V'.C = V.C → V'.th 1 = 1 → V'.so 1 = 2 → V'.sl 1 = 58 → V'.ce 1 0 = -1 → r_judge V' 1 2 0 (-1) = -14 := fun V' _ y1 y2 y3 y4 y5 y6 => by
    have hr : refR V' 1 2 0 (-1) = -14 := by
      unfold refR
      rw [if_neg (by omega), if_neg (by omega), if_neg (fun q => q y3), if_neg (fun q => q y4), if_pos (by omega)]
    unfold r_judge
    rw [if_pos (by rw [hr]; decide)]
    exact hr
  refine wk_aload_n (i := 1) (q := 905) dL_law_904 rfl rfl rfl ?_
  refine wk_iconst (q := 906) dL_law_905 rfl ?_
  refine wk_iconst (q := 907) dL_law_906 rfl ?_
  refine wk_aload_n (i := 2) (q := 908) dL_law_907 rfl rfl rfl ?_
  refine wk_iconst (q := 909) dL_law_908 rfl ?_
  refine wk_iald (q := 910) dL_law_909 rfl cT (by omega) ?_
  rw [b1]
  refine wk_cZ3 (q := 913) dL_law_910 rfl vl_L_25 ⟨_, _, rfl⟩ hO.ob (fv_put hF (by omega)) ⟨Nat.le_of_ble_eq_true rfl, Nat.le_of_ble_eq_true rfl, hk, hj⟩ (Nat.le_of_ble_eq_true rfl) (fun v910 I910 L910 R910 hv910 => ?_)
  obtain ⟨rfl, hF910, e910⟩ := hv910
  have a910 : ∀ i, I910 (x + 167) i = I (x + 167) i := fun i => (e910 i).trans (a0 i)
  refine wk_iconst (q := 914) dL_law_913 rfl ?_
  refine wk_icmp_ne (t := 1155) (q := 917) dL_law_914 rfl rfl (by omega) (by omega) (fun hc914 => ?_) (fun hc914 => ?_)
  · omega
  · refine wk_aload_n (i := 1) (q := 918) dL_law_917 rfl rfl rfl ?_
    refine wk_iconst (q := 919) dL_law_918 rfl ?_
    refine wk_iconst (q := 920) dL_law_919 rfl ?_
    refine wk_iconst (q := 921) dL_law_920 rfl ?_
    refine wk_iconst (q := 922) dL_law_921 rfl ?_
    refine wk_cZ4 (q := 925) dL_law_922 rfl vl_L_82 ⟨_, _, rfl⟩ hO.ob (fv_judge (r := -1) hF910 (by decide) (by decide) (by decide) j1) ⟨Nat.le_of_ble_eq_true rfl, Nat.le_of_ble_eq_true rfl, hk, hj⟩ (Nat.le_of_ble_eq_true rfl) (fun v922 I922 L922 R922 hv922 => ?_)
    obtain ⟨rfl, hF922, e922⟩ := hv922
    have a922 : ∀ i, I922 (x + 167) i = I (x + 167) i := fun i => (e922 i).trans (a910 i)
    refine wk_iconst (q := 926) dL_law_925 rfl ?_
    refine wk_icmp_ne (t := 1155) (q := 929) dL_law_926 rfl rfl (by omega) (by omega) (fun hc926 => ?_) (fun hc926 => ?_)
    · omega
    · refine wk_aload_n (i := 1) (q := 930) dL_law_929 rfl rfl rfl ?_
      refine wk_iconst (q := 931) dL_law_930 rfl ?_
      refine wk_iconst (q := 932) dL_law_931 rfl ?_
      refine wk_iconst (q := 933) dL_law_932 rfl ?_
      refine wk_cZ3 (q := 936) dL_law_933 rfl vl_L_25 ⟨_, _, rfl⟩ hO.ob (fv_put hF922 (by decide)) ⟨Nat.le_of_ble_eq_true rfl, Nat.le_of_ble_eq_true rfl, hk, hj⟩ (Nat.le_of_ble_eq_true rfl) (fun v933 I933 L933 R933 hv933 => ?_)
      obtain ⟨rfl, hF933, e933⟩ := hv933
      have a933 : ∀ i, I933 (x + 167) i = I (x + 167) i := fun i => (e933 i).trans (a922 i)
      refine wk_iconst (q := 937) dL_law_936 rfl ?_
      refine wk_icmp_ne (t := 1155) (q := 940) dL_law_937 rfl rfl (by omega) (by omega) (fun hc937 => ?_) (fun hc937 => ?_)
      · omega
      · refine wk_aload_n (i := 1) (q := 941) dL_law_940 rfl rfl rfl ?_
        refine wk_iconst (q := 942) dL_law_941 rfl ?_
        refine wk_iconst (q := 943) dL_law_942 rfl ?_
        refine wk_iconst (q := 944) dL_law_943 rfl ?_
        refine wk_iconst (q := 945) dL_law_944 rfl ?_
        refine wk_cZ4 (q := 948) dL_law_945 rfl vl_L_82 ⟨_, _, rfl⟩ hO.ob (fv_judge (r := -1) hF933 (by decide) (by decide) (by decide) j2) ⟨Nat.le_of_ble_eq_true rfl, Nat.le_of_ble_eq_true rfl, hk, hj⟩ (Nat.le_of_ble_eq_true rfl) (fun v945 I945 L945 R945 hv945 => ?_)
        obtain ⟨rfl, hF945, e945⟩ := hv945
        have a945 : ∀ i, I945 (x + 167) i = I (x + 167) i := fun i => (e945 i).trans (a933 i)
        refine wk_iconst (q := 949) dL_law_948 rfl ?_
        refine wk_icmp_ne (t := 1155) (q := 952) dL_law_949 rfl rfl (by omega) (by omega) (fun hc949 => ?_) (fun hc949 => ?_)
        · omega
        · refine wk_aload_n (i := 1) (q := 953) dL_law_952 rfl rfl rfl ?_
          refine wk_iconst (q := 954) dL_law_953 rfl ?_
          refine wk_iconst (q := 955) dL_law_954 rfl ?_
          refine wk_iconst (q := 956) dL_law_955 rfl ?_
          refine wk_aload_n (i := 2) (q := 957) dL_law_956 rfl rfl rfl ?_
          refine wk_iconst (q := 958) dL_law_957 rfl ?_
          refine wk_iald (q := 959) dL_law_958 rfl cT (by omega) ?_
          rw [a945, b3]
          refine wk_iload (i := 6) (q := 961) dL_law_959 rfl rfl ?_
          refine wk_imul (q := 962) dL_law_961 rfl ?_
          refine wk_iconst (q := 963) dL_law_962 rfl ?_
          refine wk_iadd (q := 964) dL_law_963 rfl ?_
          refine wk_cZ4 (q := 967) dL_law_964 rfl vl_L_82 ⟨_, _, rfl⟩ hO.ob (fv_judge (r := -2) hF945 (by decide) (by decide) (by omega) j3) ⟨Nat.le_of_ble_eq_true rfl, Nat.le_of_ble_eq_true rfl, hk, hj⟩ (Nat.le_of_ble_eq_true rfl) (fun v964 I964 L964 R964 hv964 => ?_)
          obtain ⟨rfl, hF964, e964⟩ := hv964
          have a964 : ∀ i, I964 (x + 167) i = I (x + 167) i := fun i => (e964 i).trans (a945 i)
          refine wk_bipush (q := 969) dL_law_967 rfl (by decide +kernel) ?_
          refine wk_icmp_ne (t := 1155) (q := 972) dL_law_969 rfl rfl (by omega) (by omega) (fun hc969 => ?_) (fun hc969 => ?_)
          · omega
          · refine wk_aload_n (i := 1) (q := 973) dL_law_972 rfl rfl rfl ?_
            refine wk_iconst (q := 974) dL_law_973 rfl ?_
            refine wk_iconst (q := 975) dL_law_974 rfl ?_
            refine wk_iconst (q := 976) dL_law_975 rfl ?_
            refine wk_iconst (q := 977) dL_law_976 rfl ?_
            refine wk_cZ4 (q := 980) dL_law_977 rfl vl_L_82 ⟨_, _, rfl⟩ hO.ob (fv_judge (r := -12) hF964 (by decide) (by decide) (by decide) j4) ⟨Nat.le_of_ble_eq_true rfl, Nat.le_of_ble_eq_true rfl, hk, hj⟩ (Nat.le_of_ble_eq_true rfl) (fun v977 I977 L977 R977 hv977 => ?_)
            obtain ⟨rfl, hF977, e977⟩ := hv977
            have a977 : ∀ i, I977 (x + 167) i = I (x + 167) i := fun i => (e977 i).trans (a964 i)
            refine wk_bipush (q := 982) dL_law_980 rfl (by decide +kernel) ?_
            refine wk_icmp_ne (t := 1155) (q := 985) dL_law_982 rfl rfl (by omega) (by omega) (fun hc982 => ?_) (fun hc982 => ?_)
            · omega
            · refine wk_aload_n (i := 1) (q := 986) dL_law_985 rfl rfl rfl ?_
              refine wk_iconst (q := 987) dL_law_986 rfl ?_
              refine wk_iconst (q := 988) dL_law_987 rfl ?_
              refine wk_iconst (q := 989) dL_law_988 rfl ?_
              refine wk_bipush (q := 991) dL_law_989 rfl (by decide +kernel) ?_
              refine wk_cZ4 (q := 994) dL_law_991 rfl vl_L_82 ⟨_, _, rfl⟩ hO.ob (fv_judge (r := -13) hF977 (by decide) (by decide) (by decide) j5) ⟨Nat.le_of_ble_eq_true rfl, Nat.le_of_ble_eq_true rfl, hk, hj⟩ (Nat.le_of_ble_eq_true rfl) (fun v991 I991 L991 R991 hv991 => ?_)
              obtain ⟨rfl, hF991, e991⟩ := hv991
              have a991 : ∀ i, I991 (x + 167) i = I (x + 167) i := fun i => (e991 i).trans (a977 i)
              refine wk_bipush (q := 996) dL_law_994 rfl (by decide +kernel) ?_
              refine wk_icmp_ne (t := 1155) (q := 999) dL_law_996 rfl rfl (by omega) (by omega) (fun hc996 => ?_) (fun hc996 => ?_)
              · omega
              · refine wk_aload_n (i := 1) (q := 1000) dL_law_999 rfl rfl rfl ?_
                refine wk_iconst (q := 1001) dL_law_1000 rfl ?_
                refine wk_iconst (q := 1002) dL_law_1001 rfl ?_
                refine wk_iconst (q := 1003) dL_law_1002 rfl ?_
                refine wk_iconst (q := 1004) dL_law_1003 rfl ?_
                refine wk_cZ4 (q := 1007) dL_law_1004 rfl vl_L_82 ⟨_, _, rfl⟩ hO.ob (fv_judge (r := -14) hF991 (by decide) (by decide) (by decide) j6) ⟨Nat.le_of_ble_eq_true rfl, Nat.le_of_ble_eq_true rfl, hk, hj⟩ (Nat.le_of_ble_eq_true rfl) (fun v1004 I1004 L1004 R1004 hv1004 => ?_)
                obtain ⟨rfl, hF1004, e1004⟩ := hv1004
                have a1004 : ∀ i, I1004 (x + 167) i = I (x + 167) i := fun i => (e1004 i).trans (a991 i)
                refine wk_bipush (q := 1009) dL_law_1007 rfl (by decide +kernel) ?_
                refine wk_icmp_ne (t := 1155) (q := 1012) dL_law_1009 rfl rfl (by omega) (by omega) (fun hc1009 => ?_) (fun hc1009 => ?_)
                · omega
                · refine wk_aload_n (i := 1) (q := 1013) dL_law_1012 rfl rfl rfl ?_
                  refine wk_iload (i := 6) (q := 1015) dL_law_1013 rfl rfl ?_
                  refine wk_iconst (q := 1016) dL_law_1015 rfl ?_
                  refine wk_cZ2 (q := 1019) dL_law_1016 rfl vl_L_65 ⟨_, _, rfl⟩ hO.ob (fv_gets hF1004 (by omega) (by decide) (by omega)) ⟨Nat.le_of_ble_eq_true rfl, Nat.le_of_ble_eq_true rfl, hk, hj⟩ (Nat.le_of_ble_eq_true rfl) (fun v1016 I1016 L1016 R1016 hv1016 => ?_)
                  obtain ⟨rfl, hF1016, e1016⟩ := hv1016
                  have a1016 : ∀ i, I1016 (x + 167) i = I (x + 167) i := fun i => (e1016 i).trans (a1004 i)
                  refine wk_iconst (q := 1020) dL_law_1019 rfl ?_
                  refine wk_icmp_ne (t := 1155) (q := 1023) dL_law_1020 rfl rfl (by omega) (by omega) (fun hc1020 => ?_) (fun hc1020 => ?_)
                  · omega
                  · refine wk_aload_n (i := 1) (q := 1024) dL_law_1023 rfl rfl rfl ?_
                    refine wk_iconst (q := 1025) dL_law_1024 rfl ?_
                    refine wk_iconst (q := 1026) dL_law_1025 rfl ?_
                    refine wk_cZ2 (q := 1029) dL_law_1026 rfl vl_L_65 ⟨_, _, rfl⟩ hO.ob (fv_gets hF1016 (by decide) (by decide) (by omega)) ⟨Nat.le_of_ble_eq_true rfl, Nat.le_of_ble_eq_true rfl, hk, hj⟩ (Nat.le_of_ble_eq_true rfl) (fun v1026 I1026 L1026 R1026 hv1026 => ?_)
                    obtain ⟨rfl, hF1026, e1026⟩ := hv1026
                    have a1026 : ∀ i, I1026 (x + 167) i = I (x + 167) i := fun i => (e1026 i).trans (a1016 i)
                    refine wk_iconst (q := 1030) dL_law_1029 rfl ?_
                    refine wk_icmp_ne (t := 1155) (q := 1033) dL_law_1030 rfl rfl (by omega) (by omega) (fun hc1030 => ?_) (fun hc1030 => ?_)
                    · omega
                    · refine wk_aload_n (i := 1) (q := 1034) dL_law_1033 rfl rfl rfl ?_
                      refine wk_iload (i := 6) (q := 1036) dL_law_1034 rfl rfl ?_
                      refine wk_cZ1 (q := 1039) dL_law_1036 rfl vl_L_68 ⟨_, _, rfl⟩ hO.ob (fv_glad hF1026 (by omega) (by omega)) ⟨Nat.le_of_ble_eq_true rfl, Nat.le_of_ble_eq_true rfl, hk, hj⟩ (Nat.le_of_ble_eq_true rfl) (fun v1036 I1036 L1036 R1036 hv1036 => ?_)
                      obtain ⟨rfl, hF1036, e1036⟩ := hv1036
                      have a1036 : ∀ i, I1036 (x + 167) i = I (x + 167) i := fun i => (e1036 i).trans (a1026 i)
                      refine wk_iconst (q := 1040) dL_law_1039 rfl ?_
                      refine wk_icmp_ne (t := 1155) (q := 1043) dL_law_1040 rfl rfl (by omega) (by omega) (fun hc1040 => ?_) (fun hc1040 => ?_)
                      · omega
                      · refine wk_aload_n (i := 1) (q := 1044) dL_law_1043 rfl rfl rfl ?_
                        refine wk_iload (i := 6) (q := 1046) dL_law_1044 rfl rfl ?_
                        refine wk_iconst (q := 1047) dL_law_1046 rfl ?_
                        refine wk_iconst (q := 1048) dL_law_1047 rfl ?_
                        refine wk_cJ3 (q := 1051) dL_law_1048 rfl vl_L_74 ⟨_, _, rfl⟩ hO.ob (fv_pays hF1036 (by omega) (by decide) (by decide) (by omega)) ⟨Nat.le_of_ble_eq_true rfl, Nat.le_of_ble_eq_true rfl, hk, hj⟩ (Nat.le_of_ble_eq_true rfl) (fun v1048 I1048 L1048 R1048 hv1048 => ?_)
                        obtain ⟨rfl, hF1048, e1048⟩ := hv1048
                        have a1048 : ∀ i, I1048 (x + 167) i = I (x + 167) i := fun i => (e1048 i).trans (a1036 i)
                        refine wk_ldc2 (z := (-9223372036854775808)) (q := 1054) dL_law_1051 rfl (v := (-9223372036854775808)) (qtb_in 533 (by decide +kernel) (by decide +kernel)) rfl ?_
                        refine wk_lcmp (q := 1055) dL_law_1054 rfl (by omega) (by omega) (fun hc1054 => ?_) (fun hc1054 => ?_) (fun hc1054 => ?_)
                        · refine wk_if_ne (t := 1155) (q := 1058) dL_law_1055 rfl rfl (by omega) (fun _ => ?_) (fun hq => absurd hq (by decide))
                          omega
                        · refine wk_if_ne (t := 1155) (q := 1058) dL_law_1055 rfl rfl (by omega) (fun hq => absurd hq (by decide)) (fun _ => ?_)
                          refine wk_aload_n (i := 1) (q := 1059) dL_law_1058 rfl rfl rfl ?_
                          refine wk_iconst (q := 1060) dL_law_1059 rfl ?_
                          refine wk_iconst (q := 1061) dL_law_1060 rfl ?_
                          refine wk_iconst (q := 1062) dL_law_1061 rfl ?_
                          refine wk_cJ3 (q := 1065) dL_law_1062 rfl vl_L_74 ⟨_, _, rfl⟩ hO.ob (fv_pays hF1048 (by decide) (by decide) (by decide) (by omega)) ⟨Nat.le_of_ble_eq_true rfl, Nat.le_of_ble_eq_true rfl, hk, hj⟩ (Nat.le_of_ble_eq_true rfl) (fun v1062 I1062 L1062 R1062 hv1062 => ?_)
                          obtain ⟨rfl, hF1062, e1062⟩ := hv1062
                          have a1062 : ∀ i, I1062 (x + 167) i = I (x + 167) i := fun i => (e1062 i).trans (a1048 i)
                          refine wk_ldc2 (z := (-9223372036854775808)) (q := 1068) dL_law_1065 rfl (v := (-9223372036854775808)) (qtb_in 533 (by decide +kernel) (by decide +kernel)) rfl ?_
                          refine wk_lcmp (q := 1069) dL_law_1068 rfl (by omega) (by omega) (fun hc1068 => ?_) (fun hc1068 => ?_) (fun hc1068 => ?_)
                          · refine wk_if_ne (t := 1155) (q := 1072) dL_law_1069 rfl rfl (by omega) (fun _ => ?_) (fun hq => absurd hq (by decide))
                            omega
                          · refine wk_if_ne (t := 1155) (q := 1072) dL_law_1069 rfl rfl (by omega) (fun hq => absurd hq (by decide)) (fun _ => ?_)
                            refine wk_aload_n (i := 1) (q := 1073) dL_law_1072 rfl rfl rfl ?_
                            refine wk_iconst (q := 1074) dL_law_1073 rfl ?_
                            refine wk_cZ1 (q := 1077) dL_law_1074 rfl vl_L_28 ⟨_, _, rfl⟩ hO.ob (fv_step hF1062 (by decide) (by omega)) ⟨Nat.le_of_ble_eq_true rfl, Nat.le_of_ble_eq_true rfl, hk, hj⟩ (Nat.le_of_ble_eq_true rfl) (fun v1074 I1074 L1074 R1074 hv1074 => ?_)
                            obtain ⟨rfl, hF1074, e1074⟩ := hv1074
                            have a1074 : ∀ i, I1074 (x + 167) i = I (x + 167) i := fun i => (e1074 i).trans (a1062 i)
                            refine wk_bipush (q := 1079) dL_law_1077 rfl (by decide +kernel) ?_
                            refine wk_icmp_ne (t := 1155) (q := 1082) dL_law_1079 rfl rfl (by omega) (by omega) (fun hc1079 => ?_) (fun hc1079 => ?_)
                            · omega
                            · refine wk_aload_n (i := 1) (q := 1083) dL_law_1082 rfl rfl rfl ?_
                              refine wk_iload (i := 6) (q := 1085) dL_law_1083 rfl rfl ?_
                              refine wk_cZ1 (q := 1088) dL_law_1085 rfl vl_L_28 ⟨_, _, rfl⟩ hO.ob (fv_step hF1074 (by omega) (by omega)) ⟨Nat.le_of_ble_eq_true rfl, Nat.le_of_ble_eq_true rfl, hk, hj⟩ (Nat.le_of_ble_eq_true rfl) (fun v1085 I1085 L1085 R1085 hv1085 => ?_)
                              obtain ⟨rfl, hF1085, e1085⟩ := hv1085
                              have a1085 : ∀ i, I1085 (x + 167) i = I (x + 167) i := fun i => (e1085 i).trans (a1074 i)
                              refine wk_bipush (q := 1090) dL_law_1088 rfl (by decide +kernel) ?_
                              refine wk_icmp_ne (t := 1155) (q := 1093) dL_law_1090 rfl rfl (by omega) (by omega) (fun hc1090 => ?_) (fun hc1090 => ?_)
                              · omega
                              · refine wk_aload_n (i := 1) (q := 1094) dL_law_1093 rfl rfl rfl ?_
                                refine wk_iconst (q := 1095) dL_law_1094 rfl ?_
                                refine wk_cZ1 (q := 1098) dL_law_1095 rfl vl_L_32 ⟨_, _, rfl⟩ hO.ob (fv_courses hF1085 (by decide) (by omega)) ⟨Nat.le_of_ble_eq_true rfl, Nat.le_of_ble_eq_true rfl, hk, hj⟩ (Nat.le_of_ble_eq_true rfl) (fun v1095 I1095 L1095 R1095 hv1095 => ?_)
                                obtain ⟨rfl, hF1095, e1095⟩ := hv1095
                                have a1095 : ∀ i, I1095 (x + 167) i = I (x + 167) i := fun i => (e1095 i).trans (a1085 i)
                                refine wk_bipush (q := 1100) dL_law_1098 rfl (by decide +kernel) ?_
                                refine wk_icmp_ne (t := 1155) (q := 1103) dL_law_1100 rfl rfl (by omega) (by omega) (fun hc1100 => ?_) (fun hc1100 => ?_)
                                · omega
                                · refine wk_aload_n (i := 1) (q := 1104) dL_law_1103 rfl rfl rfl ?_
                                  refine wk_bipush (q := 1106) dL_law_1104 rfl (by decide +kernel) ?_
                                  refine wk_cZ1 (q := 1109) dL_law_1106 rfl vl_L_32 ⟨_, _, rfl⟩ hO.ob (fv_courses hF1095 (by decide) (by omega)) ⟨Nat.le_of_ble_eq_true rfl, Nat.le_of_ble_eq_true rfl, hk, hj⟩ (Nat.le_of_ble_eq_true rfl) (fun v1106 I1106 L1106 R1106 hv1106 => ?_)
                                  obtain ⟨rfl, hF1106, e1106⟩ := hv1106
                                  have a1106 : ∀ i, I1106 (x + 167) i = I (x + 167) i := fun i => (e1106 i).trans (a1095 i)
                                  refine wk_bipush (q := 1111) dL_law_1109 rfl (by decide +kernel) ?_
                                  refine wk_icmp_ne (t := 1155) (q := 1114) dL_law_1111 rfl rfl (by omega) (by omega) (fun hc1111 => ?_) (fun hc1111 => ?_)
                                  · omega
                                  · refine wk_aload_n (i := 1) (q := 1115) dL_law_1114 rfl rfl rfl ?_
                                    refine wk_iconst (q := 1116) dL_law_1115 rfl ?_
                                    refine wk_iload (i := 6) (q := 1118) dL_law_1116 rfl rfl ?_
                                    refine wk_cZ2 (q := 1121) dL_law_1118 rfl vl_L_35 ⟨_, _, rfl⟩ hO.ob (fv_swap hF1106 (by decide) (by omega) (by omega)) ⟨Nat.le_of_ble_eq_true rfl, Nat.le_of_ble_eq_true rfl, hk, hj⟩ (Nat.le_of_ble_eq_true rfl) (fun v1118 I1118 L1118 R1118 hv1118 => ?_)
                                    obtain ⟨rfl, hF1118, e1118⟩ := hv1118
                                    have a1118 : ∀ i, I1118 (x + 167) i = I (x + 167) i := fun i => (e1118 i).trans (a1106 i)
                                    refine wk_iconst (q := 1122) dL_law_1121 rfl ?_
                                    refine wk_icmp_ne (t := 1155) (q := 1125) dL_law_1122 rfl rfl (by omega) (by omega) (fun hc1122 => ?_) (fun hc1122 => ?_)
                                    · omega
                                    · refine wk_aload_n (i := 1) (q := 1126) dL_law_1125 rfl rfl rfl ?_
                                      refine wk_iconst (q := 1127) dL_law_1126 rfl ?_
                                      refine wk_iconst (q := 1128) dL_law_1127 rfl ?_
                                      refine wk_bipush (q := 1130) dL_law_1128 rfl (by decide +kernel) ?_
                                      refine wk_cZ3 (q := 1133) dL_law_1130 rfl vl_L_38 ⟨_, _, rfl⟩ hO.ob (fv_say (r := -2) hF1118 (by decide) (by decide) (by decide) (Or.inr ⟨rfl, by omega, by omega⟩)) ⟨Nat.le_of_ble_eq_true rfl, Nat.le_of_ble_eq_true rfl, hk, hj⟩ (Nat.le_of_ble_eq_true rfl) (fun v1130 I1130 L1130 R1130 hv1130 => ?_)
                                      obtain ⟨rfl, hF1130, e1130⟩ := hv1130
                                      have a1130 : ∀ i, I1130 (x + 167) i = I (x + 167) i := fun i => (e1130 i).trans (a1118 i)
                                      refine wk_bipush (q := 1135) dL_law_1133 rfl (by decide +kernel) ?_
                                      refine wk_icmp_ne (t := 1155) (q := 1138) dL_law_1135 rfl rfl (by omega) (by omega) (fun hc1135 => ?_) (fun hc1135 => ?_)
                                      · omega
                                      · refine wk_aload_n (i := 1) (q := 1139) dL_law_1138 rfl rfl rfl ?_
                                        refine wk_iconst (q := 1140) dL_law_1139 rfl ?_
                                        refine wk_aload_n (i := 2) (q := 1141) dL_law_1140 rfl rfl rfl ?_
                                        refine wk_iconst (q := 1142) dL_law_1141 rfl ?_
                                        refine wk_iald (q := 1143) dL_law_1142 rfl cT (by omega) ?_
                                        rw [a1130, b1]
                                        refine wk_iconst (q := 1144) dL_law_1143 rfl ?_
                                        skip
                                        refine wk_cZ3 (q := 1147) dL_law_1144 rfl vl_L_38 ⟨_, _, rfl⟩ hO.ob (fv_say (r := -1) hF1130 (by decide) (by omega) (by decide) (Or.inl ⟨rfl, by omega⟩)) ⟨Nat.le_of_ble_eq_true rfl, Nat.le_of_ble_eq_true rfl, hk, hj⟩ (Nat.le_of_ble_eq_true rfl) (fun v1144 I1144 L1144 R1144 hv1144 => ?_)
                                        obtain ⟨rfl, hF1144, e1144⟩ := hv1144
                                        have a1144 : ∀ i, I1144 (x + 167) i = I (x + 167) i := fun i => (e1144 i).trans (a1130 i)
                                        refine wk_iconst (q := 1148) dL_law_1147 rfl ?_
                                        refine wk_icmp_ne (t := 1155) (q := 1151) dL_law_1148 rfl rfl (by omega) (by omega) (fun hc1148 => ?_) (fun hc1148 => ?_)
                                        · omega
                                        · refine wk_iconst (q := 1152) dL_law_1151 rfl ?_
                                          refine wk_goto (t := 1156) dL_law_1152 rfl ?_
                                          exact Ke _ _
                          · refine wk_if_ne (t := 1155) (q := 1072) dL_law_1069 rfl rfl (by omega) (fun _ => ?_) (fun hq => absurd hq (by decide))
                            omega
                        · refine wk_if_ne (t := 1155) (q := 1058) dL_law_1055 rfl rfl (by omega) (fun _ => ?_) (fun hq => absurd hq (by decide))
                          omega

/-- the turns -/
theorem lw_turns {V0 : VV} (hN : N ≤ 260) (Ke : ∀ (k j : Nat) (lo : List (Nat × Value)) (S' : qS), k ≤ 600000 → j ≤ 7302250 → Wk l E (lwY E Q b N xs) mL k j 1156 lo [.int (zI 1)] S') :
    ∀ t : Nat, t ≤ 5 → ∀ (n k j : Nat) (sh : qSh) (I L : qI) (R : qR) (V : VV), k + 2 * (5 - t) ≤ 600000 → j + 12 * (5 - t) ≤ 7302250 → LC E.2.2 n sh x → TW E n sh x I L R V → V.T = V0.T → (t = 0 ∨ (V.th 1 = 1 ∧ V.so 1 = 2 ∧ V.sl 1 = 58)) → Wk l E (lwY E Q b N xs) mL k j 87 [(0, .ref b), (1, .ref x), (2, .ref (x + 167)), (3, .ref (x + 168)), (4, .ref (x + 169)), (5, .int (zI cd)), (6, .int (zI V0.T.ng)), (7, .ref (x + 170)), (8, .ref (x + 171)), (9, .ref (x + 172)), (10, .int (zI t))] [] (n, sh, I, L, R) := by
  refine up_ind 5 ?_ ?_
  · intro n k j sh I L R V hk hj hL hW hT hS
    obtain ⟨cT, cW, cU, cP, cG, cO⟩ := id hL
    have hO := hW.1.isX
    have s1 := hS.resolve_left (by omega)
    have w := lw_fin (l := l) (Q := Q) (b := b) (N := N) (xs := xs) (cd := cd) (tn := ((5 : Nat) : Int)) (k := k) (j := j) (by omega) (by omega) hL hW s1.1 s1.2.1 s1.2.2 (fun lo S' => Ke k j lo S' (by omega) (by omega))
    rw [hT] at w
    refine wk_iload (i := 10) (q := 89) dL_law_87 rfl rfl ?_
    refine wk_iconst (q := 90) dL_law_89 rfl ?_
    refine wk_icmp_ge (t := 904) (q := 93) dL_law_90 rfl rfl (by omega) (by omega) (fun hc90 => ?_) (fun hc90 => ?_)
    · exact w
    · omega
  · intro t ht ih n k j sh I L R V hk hj hL hW hT hS
    obtain ⟨cT, cW, cU, cP, cG, cO⟩ := id hL
    have hO := hW.1.isX
    have hL1 := hL.sh1 (v := (0, 6))
    have hL2 := hL1.sh1 (v := (0, 6))
    have w := lw_t1 (l := l) (Q := Q) (b := b) (N := N) (xs := xs) (cd := cd) (tn := (t : Int)) (k := k) (j := j) hN (by omega) (by omega) (by omega) (by omega) ⟨by omega, by omega⟩ hL hW (fun v11 I1 L1 R1 C' h1 => by
      refine lw_t2 (V := V.setC C') (by omega) (by omega) hL1 (fun I2 L2 R2 h2 => ?_) h1
      refine lw_t3 (V := V.setC C') (by omega) (by omega) hL1 (fun I3 L3 R3 V3 h3 hR3 => ?_) h2
      refine lw_t4 (V := V.setC C') (by omega) (by omega) (by omega) (by omega) hL1 hW.2.1 h3 hR3 (fun I4 L4 R4 V4 h4 sV th1 so1 sl1 => ?_)
      have q := lw_t5 (l := l) (Q := Q) (b := b) (N := N) (xs := xs) (cd := cd) (tn := (t : Int)) (v11 := v11) (k := k + 1 + 1) (j := j + 6 + 6) (by omega) (by omega) hL2 h4 (fun I5 L5 R5 V5 h5 e1 e2 e3 e4 => by
        have eT : V5.T = V0.T := e1.trans (sV.1.trans hT)
        have r := ih (n + 1 + 1) (k + 1 + 1) (j + 6 + 6) _ I5 L5 R5 V5 (by omega) (by omega) hL2 h5 eT (Or.inr ⟨by rw [e2]; exact th1, by rw [e3]; exact so1, by rw [e4]; exact sl1⟩)
        rw [show V4.T.ng = V0.T.ng by rw [sV.1]; show V.T.ng = V0.T.ng; rw [hT]]
        refine wk_iinc (lo' := [(0, _), (1, _), (2, _), (3, _), (4, _), (5, _), (6, _), (7, _), (8, _), (9, _), (10, _)]) (q := 901) dL_law_898 rfl rfl (by decide) rfl ?_
        refine wk_goto (t := 87) dL_law_901 rfl ?_
        exact r
      )
      rw [show V4.T.ng = (V.setC C').T.ng by rw [sV.1]] at q
      exact q)
    rw [show V.T.ng = V0.T.ng by rw [hT]] at w
    refine wk_iload (i := 10) (q := 89) dL_law_87 rfl rfl ?_
    refine wk_iconst (q := 90) dL_law_89 rfl ?_
    refine wk_icmp_ge (t := 904) (q := 93) dL_law_90 rfl rfl (by omega) (by omega) (fun hc90 => ?_) (fun hc90 => ?_)
    · omega
    · exact w
end LAW7
