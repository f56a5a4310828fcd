/-! SEATS, the reference -/
theorem gd_l {pre : List Int} {a : Int} {j : Nat} (h : j < pre.length) : (pre ++ [a]).getD j 0 = pre.getD j 0 := by
  rw [List.getD_eq_getElem?_getD, List.getElem?_append_left h, ← List.getD_eq_getElem?_getD]
theorem gd_r {pre : List Int} {a : Int} : (pre ++ [a]).getD pre.length 0 = a := by
  rw [List.getD_eq_getElem?_getD, List.getElem?_append_right (Nat.le_refl _), Nat.sub_self]
  rfl
theorem pok_nd {n : Nat} {p : List Int} (h1 : p.length = n) (h2 : p.Nodup) (h3 : ∀ v ∈ p, 0 ≤ v ∧ v < (n : Int)) : pok n p := by
  have e : ∀ s : Int, 0 ≤ s → s < n → ∃ h : s.toNat < p.length, rowF p s = p[s.toNat] := fun s s0 s1 => by
    have h : s.toNat < p.length := by omega
    refine ⟨h, ?_⟩
    unfold rowF
    rw [List.getD_eq_getElem?_getD, List.getElem?_eq_getElem h]
    rfl
  refine ⟨h1, fun s s0 s1 => ?_, fun s s' s0 s1 s0' s1' q => ?_⟩
  · obtain ⟨h, z⟩ := e s s0 s1
    rw [z]
    exact h3 _ (List.getElem_mem h)
  · obtain ⟨h, z⟩ := e s s0 s1
    obtain ⟨h', z'⟩ := e s' s0' s1'
    rw [z, z'] at q
    have nd := List.pairwise_iff_getElem.mp h2
    by_cases c : s.toNat < s'.toNat
    · exact absurd q (nd _ _ h h' c)
    · by_cases c' : s'.toNat < s.toNat
      · exact absurd q.symm (nd _ _ h' h c')
      · omega
def subL (m : Nat) (pre l S : List Int) : List (List Int) := S.flatMap (fun a => (permsL m (l.erase a)).map (fun r => pre ++ a :: r))
theorem subL_cons {m : Nat} {pre l S : List Int} {a : Int} : subL m pre l (a :: S) = (permsL m (l.erase a)).map (fun r => pre ++ a :: r) ++ subL m pre l S := by
  unfold subL
  rw [List.flatMap_cons]
theorem subL_deep {m : Nat} {pre l : List Int} {a : Int} : (permsL (m + 1) l).map (fun r => pre ++ a :: r) = subL m (pre ++ [a]) l l := by
  unfold subL
  rw [permsL, List.map_flatMap]
  refine congrArg (fun f => List.flatMap f l) (funext fun b => ?_)
  rw [List.map_map]
  refine congrArg (fun f => List.map f (permsL m (l.erase b))) (funext fun r => ?_)
  simp
theorem rowsN_sub {n : Nat} (h : 2 ≤ n) : rowsN n = subL (n - 2) [0] ((List.range (n - 1)).map (fun k : Nat => (k : Int) + 1)) ((List.range (n - 1)).map (fun k : Nat => (k : Int) + 1)) := by
  have e := subL_deep (m := n - 2) (pre := []) (l := (List.range (n - 1)).map (fun k : Nat => (k : Int) + 1)) (a := 0)
  rw [show n - 2 + 1 = n - 1 by omega] at e
  exact e
/-- what is kept of the best seating so far -/
def sbM (I : qI) (m : Nat) (ng : Int) (B : Int × List Int) : Prop := I m 42 = B.1 ∧ (-1 ≤ B.1 ∧ B.1 ≤ 9576) ∧ (B.1 = -1 ∨ ∀ s : Int, 0 ≤ s → s < ng → I (m + 28) s = rowF B.2 s)
theorem sbM.cg {I I' : qI} {m : Nat} {ng : Int} {B : Int × List Int} (h : sbM I m ng B) (e : ∀ b i, (b = m ∧ i = 42) ∨ b = m + 28 → I' b i = I b i) : sbM I' m ng B := by
  obtain ⟨g1, g2, g3⟩ := h
  refine ⟨by rw [e _ _ (by omega)]; exact g1, g2, ?_⟩
  rcases g3 with y | y
  · exact Or.inl y
  · refine Or.inr fun s s0 s1 => ?_
    rw [e _ _ (by omega)]
    exact y s s0 s1
theorem MI.sc {I I' : qI} {m : Nat} {V : VV} (h : MI I m V) (hf : ∀ b i, (b = m ∧ (i = 0 ∨ i = 1 ∨ i = 5 ∨ i = 6 ∨ i = 16 ∨ i = 17 ∨ i = 18)) ∨ (m + 1 ≤ b ∧ b ≤ m + 12) → I' b i = I b i) : MI I' m V :=
  h.fld ⟨rfl, rfl, rfl, rfl⟩ ⟨rfl, rfl, rfl, rfl⟩ (fun b i q => hf b i (by omega)) (by rw [hf _ _ (by omega)]; exact h.2.2.1) (by rw [hf _ _ (by omega)]; exact h.2.2.2.1)
section SEATS5
variable {l : Launch} {E : qEv} {n : Nat} {sh : qSh} {I L : qI} {R : qR}
theorem ct_X7_isInPerm {m : Nat} {pre : List Int} {g : Int} (hM : qMod E.2.2 n sh R m) (hl : pre.length ≤ 7) (hp : ∀ j : Nat, j < pre.length → I (m + 30) j = pre.getD j 0) (hb : ∀ v ∈ pre, in32 v) (hg : in32 g) :
    Ct l E 0 mX7_isInPerm [.ref m, .int (zI g), .int (zI ((pre.length : Nat) : Int))] (n, sh, I, L, R) 0 0 (qP n sh I L R (qBo (g ∈ pre))) := by
  have at_ : ∀ j : Nat, ∀ h : j < pre.length, I (m + 30) j = pre[j] := fun j h => by
    rw [hp j h, List.getD_eq_getElem?_getD, List.getElem?_eq_getElem h]
    rfl
  have loop : ∀ k : Nat, k ≤ pre.length → (∀ j : Nat, ∀ h : j < pre.length, j < k → pre[j] ≠ g) → Wk l E (qmo E 0 n 0 0 (qP n sh I L R (qBo (g ∈ pre)))) mX7_isInPerm 0 0 2
      [(0, .ref m), (1, .int (zI g)), (2, .int (zI ((pre.length : Nat) : Int))), (3, .int (zI (k : Int)))] [] (n, sh, I, L, R) := by
    refine up_ind pre.length ?_ ?_
    · intro hne
      refine wk_iload_n (i := 3) (q := 3) dX7_isInPerm_2 rfl rfl rfl ?_
      refine wk_iload_n (i := 2) (q := 4) dX7_isInPerm_3 rfl rfl rfl ?_
      refine wk_icmp_ge (t := 25) (q := 7) dX7_isInPerm_4 rfl rfl (by omega) (by omega) (fun hc4 => ?_) (fun hc4 => ?_)
      · refine wk_iconst (q := 26) dX7_isInPerm_25 rfl ?_
        refine wk_zret dX7_isInPerm_26 rfl (by omega) ⟨Nat.le_refl _, Nat.le_refl _⟩ rfl ?_
        refine ⟨_, _, _, _, rfl, rfl, rfl, rfl, rfl, ?_⟩
        refine Or.inr ⟨rfl, fun q => ?_⟩
        obtain ⟨j, hj, e⟩ := List.getElem_of_mem q
        exact hne j hj hj e
      · omega
    · intro k hk ih hne
      have e := at_ k hk
      have b := hb _ (List.getElem_mem hk)
      refine wk_iload_n (i := 3) (q := 3) dX7_isInPerm_2 rfl rfl rfl ?_
      refine wk_iload_n (i := 2) (q := 4) dX7_isInPerm_3 rfl rfl rfl ?_
      refine wk_icmp_ge (t := 25) (q := 7) dX7_isInPerm_4 rfl rfl (by omega) (by omega) (fun hc4 => ?_) (fun hc4 => ?_)
      · omega
      · refine wk_aload_n (i := 0) (q := 8) dX7_isInPerm_7 rfl rfl rfl ?_
        refine wk_getR (fi := 43) (q := 11) dX7_isInPerm_8 rfl fl_X7_97 rfl rfl hM.ob hM.r43 ?_
        refine wk_iload_n (i := 3) (q := 12) dX7_isInPerm_11 rfl rfl rfl ?_
        refine wk_iald (q := 13) dX7_isInPerm_12 rfl hM.s43 (by omega) ?_
        refine wk_iload_n (i := 1) (q := 14) dX7_isInPerm_13 rfl rfl rfl ?_
        refine wk_icmp_ne (t := 19) (q := 17) dX7_isInPerm_14 rfl rfl (by omega) (by omega) (fun hc14 => ?_) (fun hc14 => ?_)
        · refine wk_iinc (lo' := [(0, _), (1, _), (2, _), (3, _)]) (q := 22) dX7_isInPerm_19 rfl rfl (by decide) rfl ?_
          refine wk_goto (t := 2) dX7_isInPerm_22 rfl ?_
          exact ih (fun j h hj => by
            by_cases c : j = k
            · subst c
              omega
            · exact hne j h (by omega))
        · refine wk_iconst (q := 18) dX7_isInPerm_17 rfl ?_
          refine wk_zret dX7_isInPerm_18 rfl (by omega) ⟨Nat.le_refl _, Nat.le_refl _⟩ rfl ?_
          refine ⟨_, _, _, _, rfl, rfl, rfl, rfl, rfl, ?_⟩
          exact Or.inl ⟨rfl, by rw [show g = pre[k] by omega]; exact List.getElem_mem hk⟩
  refine Ct.of (lo := [(0, _), (1, _), (2, _)]) ok_X7_isInPerm (Nat.le_of_ble_eq_true rfl) rfl ?_
  refine wk_iconst (q := 1) dX7_isInPerm_0 rfl ?_
  refine wk_istore_n (i := 3) (lo' := [(0, _), (1, _), (2, _), (3, _)]) (q := 2) dX7_isInPerm_1 rfl rfl (by decide) rfl ?_
  exact loop 0 (Nat.zero_le _) (fun j h hj => absurd hj (by omega))
theorem ct_X7_trySeats {m : Nat} {V : VV} {aim : Int} {p : List Int} {B : Int × List Int} (hM : qMod E.2.2 n sh R m) (h : MI I m V) (hp : 0 < V.T.ng) (ha : aim = 0 ∨ aim = 1) (hpk : pok V.T.ng.toNat p) (hpm : ∀ s : Int, 0 ≤ s → s < V.T.ng → I (m + 30) s = rowF p s) (hB : sbM I m V.T.ng B) :
    Ct l E 5 mX7_trySeats [.ref m, .int (zI aim)] (n, sh, I, L, R) 0 0 (qV n sh (fun I' L' R' => L' = L ∧ R' = R ∧ MI I' m V ∧ frO I I' m 36 ∧ (∀ s, I' (m + 30) s = I (m + 30) s) ∧ sbM I' m V.T.ng (seatStep V.T V.C aim B p))) := by
  obtain ⟨t1, t2, t3⟩ := h.1.tab hp
  have hng := t1.2.1
  have hng0 := t1.1
  have hnd := t1.2.2.2.1
  have hse := t2.2.1
  have hoC := seatC_ok t2 hpk
  have hv := seatVal_in t1 t2 hpk aim
  have hLA : LAok V.T (fun _ => -8) := fun g g0 g1 => by
    have := t1.2.2.1
    show -9 ≤ (-8 : Int) ∧ (-8 : Int) < V.T.nd
    omega
  have hs : seatStep V.T V.C aim B p = if B.1 < seatVal V.T V.C aim p then (seatVal V.T V.C aim p, p) else B := rfl
  have loopB : B.1 < seatVal V.T V.C aim p → ∀ k : Nat, k ≤ V.T.ng.toNat → ∀ I3 : qI, MI I3 m V → frO I I3 m 36 → (∀ s, I3 (m + 30) s = I (m + 30) s) → I3 m 42 = seatVal V.T V.C aim p → (∀ s : Int, 0 ≤ s → s < k → I3 (m + 28) s = rowF p s) → Wk l E (qmo E 5 n 0 0 (qV n sh (fun I' L' R' => L' = L ∧ R' = R ∧ MI I' m V ∧ frO I I' m 36 ∧ (∀ s, I' (m + 30) s = I (m + 30) s) ∧ sbM I' m V.T.ng (seatStep V.T V.C aim B p)))) mX7_trySeats 0 0 76
      [(0, .ref m), (1, .int (zI aim)), (2, .int (zI (seatVal V.T V.C aim p))), (3, .int (zI (k : Int)))] [] (n, sh, I3, L, R) := by
    intro hlt
    refine up_ind V.T.ng.toNat ?_ ?_
    · intro I3 f1 f2 f3 f4 f5
      have e5 := f1.2.2.2.2.2.1.1
      refine wk_iload_n (i := 3) (q := 77) dX7_trySeats_76 rfl rfl rfl ?_
      refine wk_aload_n (i := 0) (q := 78) dX7_trySeats_77 rfl rfl rfl ?_
      refine wk_getI (fi := 5) (q := 81) dX7_trySeats_78 rfl fl_X7_125 rfl rfl hM.ob ?_
      refine wk_icmp_ge (t := 102) (q := 84) dX7_trySeats_81 rfl rfl (by omega) (by omega) (fun hc81 => ?_) (fun hc81 => ?_)
      · refine wk_ret dX7_trySeats_102 rfl ⟨Nat.le_refl _, Nat.le_refl _⟩ rfl ?_
        refine ⟨_, _, _, rfl, rfl, rfl, rfl, f1, f2, f3, ?_⟩
        rw [hs, if_pos hlt]
        exact ⟨f4, (by show -1 ≤ seatVal V.T V.C aim p ∧ seatVal V.T V.C aim p ≤ 9576; omega), Or.inr fun s s0 s1 => f5 s s0 (by omega)⟩
      · omega
    · intro k hk ih I3 f1 f2 f3 f4 f5
      have e5 := f1.2.2.2.2.2.1.1
      have ep : I3 (m + 30) (k : Int) = rowF p k := by rw [f3]; exact hpm k (by omega) (by omega)
      refine wk_iload_n (i := 3) (q := 77) dX7_trySeats_76 rfl rfl rfl ?_
      refine wk_aload_n (i := 0) (q := 78) dX7_trySeats_77 rfl rfl rfl ?_
      refine wk_getI (fi := 5) (q := 81) dX7_trySeats_78 rfl fl_X7_125 rfl rfl hM.ob ?_
      refine wk_icmp_ge (t := 102) (q := 84) dX7_trySeats_81 rfl rfl (by omega) (by omega) (fun hc81 => ?_) (fun hc81 => ?_)
      · omega
      · refine wk_aload_n (i := 0) (q := 85) dX7_trySeats_84 rfl rfl rfl ?_
        refine wk_getR (fi := 40) (q := 88) dX7_trySeats_85 rfl fl_X7_91 rfl rfl hM.ob hM.r40 ?_
        refine wk_iload_n (i := 3) (q := 89) dX7_trySeats_88 rfl rfl rfl ?_
        refine wk_aload_n (i := 0) (q := 90) dX7_trySeats_89 rfl rfl rfl ?_
        refine wk_getR (fi := 43) (q := 93) dX7_trySeats_90 rfl fl_X7_97 rfl rfl hM.ob hM.r43 ?_
        refine wk_iload_n (i := 3) (q := 94) dX7_trySeats_93 rfl rfl rfl ?_
        refine wk_iald (q := 95) dX7_trySeats_94 rfl hM.s43 (by omega) ?_
        refine wk_iast (q := 96) dX7_trySeats_95 rfl hM.s40 (by omega) ?_
        refine wk_iinc (lo' := [(0, _), (1, _), (2, _), (3, _)]) (q := 99) dX7_trySeats_96 rfl rfl (by decide) rfl ?_
        refine wk_goto (t := 76) dX7_trySeats_99 rfl ?_
        refine ih _ (f1.sc (fun b i q => up_na _ _ _ _ (by omega))) (fun b i q => by rw [up_na _ _ _ _ (by omega)]; exact f2 b i q) (fun s => by rw [up_na _ _ _ _ (by omega)]; exact f3 s) (by rw [up_na _ _ _ _ (by omega)]; exact f4) (fun s s0 s1 => ?_)
        by_cases e : s = (k : Int)
        · subst e
          rw [up_eq]
          exact ep
        · rw [up_ni _ _ e]
          exact f5 s s0 (by omega)
  have at59 : ∀ (v : Int) (I2 : qI), v = seatVal V.T V.C aim p → MI I2 m V → frO I I2 m 36 → (∀ s, I2 (m + 30) s = I (m + 30) s) → sbM I2 m V.T.ng B → ∀ lo : List (Nat × Value), lo = [(0, .ref m), (1, .int (zI aim))] → Wk l E (qmo E 5 n 0 0 (qV n sh (fun I' L' R' => L' = L ∧ R' = R ∧ MI I' m V ∧ frO I I' m 36 ∧ (∀ s, I' (m + 30) s = I (m + 30) s) ∧ sbM I' m V.T.ng (seatStep V.T V.C aim B p)))) mX7_trySeats 0 0 59
      lo [.int (zI v)] (n, sh, I2, L, R) := by
    intro v I2 hve f1 f2 f3 f4 lo hlo
    subst hlo
    subst hve
    have e42 := f4.1
    have b42 := f4.2.1
    refine wk_istore_n (i := 2) (lo' := [(0, _), (1, _), (2, _)]) (q := 60) dX7_trySeats_59 rfl rfl (by decide) rfl ?_
    refine wk_iload_n (i := 2) (q := 61) dX7_trySeats_60 rfl rfl rfl ?_
    refine wk_aload_n (i := 0) (q := 62) dX7_trySeats_61 rfl rfl rfl ?_
    refine wk_getI (fi := 42) (q := 65) dX7_trySeats_62 rfl fl_X7_244 rfl rfl hM.ob ?_
    refine wk_icmp_gt (t := 69) (q := 68) dX7_trySeats_65 rfl rfl (by omega) (by omega) (fun hc65 => ?_) (fun hc65 => ?_)
    · refine wk_aload_n (i := 0) (q := 70) dX7_trySeats_69 rfl rfl rfl ?_
      refine wk_iload_n (i := 2) (q := 71) dX7_trySeats_70 rfl rfl rfl ?_
      refine wk_putI (fi := 42) (q := 74) dX7_trySeats_71 rfl fl_X7_244 fw_7_42 rfl rfl hM.ob ?_
      refine wk_iconst (q := 75) dX7_trySeats_74 rfl ?_
      refine wk_istore_n (i := 3) (lo' := [(0, _), (1, _), (2, _), (3, _)]) (q := 76) dX7_trySeats_75 rfl rfl (by decide) rfl ?_
      exact loopB (by omega) 0 (Nat.zero_le _) _ (f1.sc (fun b i q => up_off (by omega))) (fun b i q => by rw [up_off (by omega)]; exact f2 b i q) (fun s => by rw [up_off (by omega)]; exact f3 s) (up_eq _ _ _ _) (fun s s0 s1 => by omega)
    · refine wk_ret dX7_trySeats_68 rfl ⟨Nat.le_refl _, Nat.le_refl _⟩ rfl ?_
      refine ⟨_, _, _, rfl, rfl, rfl, rfl, f1, f2, f3, ?_⟩
      rw [hs, if_neg (by omega)]
      exact f4
  have loopA : ∀ I1 : qI, MI I1 m V → frN I I1 m → mC I1 m V.T V.C → I1 m 33 = -9 → ∀ k : Nat, k ≤ V.T.ng.toNat → ∀ I2 : qI, (∀ b i, b ≠ m + 19 → b ≠ m + 20 → I2 b i = I1 b i) → (∀ s : Int, 0 ≤ s → s < k → I2 (m + 19) s = rowF p s ∧ I2 (m + 20) s = -8) → Wk l E (qmo E 5 n 0 0 (qV n sh (fun I' L' R' => L' = L ∧ R' = R ∧ MI I' m V ∧ frO I I' m 36 ∧ (∀ s, I' (m + 30) s = I (m + 30) s) ∧ sbM I' m V.T.ng (seatStep V.T V.C aim B p)))) mX7_trySeats 0 0 6
      [(0, .ref m), (1, .int (zI aim)), (2, .int (zI (k : Int)))] [] (n, sh, I2, L, R) := by
    intro I1 h1 g1 g2 g3
    refine up_ind V.T.ng.toNat ?_ ?_
    · intro I2 f1 f2
      have h2 : MI I2 m V := h1.sc (fun b i q => f1 b i (by omega) (by omega))
      have e5 := h2.2.2.2.2.2.1.1
      have c2 : mC I2 m V.T (V.C.setOd (rowF p)) := by
        obtain ⟨z1, z2, z3, z4, z5⟩ := g2
        refine ⟨by rw [f1 _ _ (by omega) (by omega)]; exact z1, by rw [f1 _ _ (by omega) (by omega)]; exact z2, by rw [f1 _ _ (by omega) (by omega)]; exact z3, fun s s0 s1 => (f2 s s0 (by have s1' : s < V.C.se := s1; omega)).1, fun g g0 g1 => ?_⟩
        rw [f1 _ _ (by omega) (by omega)]
        obtain ⟨y1, y2⟩ := z5 g g0 g1
        exact ⟨y1, fun d d0 d1 w => by rw [f1 _ _ (by omega) (by omega)]; exact y2 d d0 d1 w⟩
      have sp : mS (V.C.setOd (rowF p)) = -9 := by
        have z := mS_now t2
        unfold mS at z ⊢
        exact z
      have pf : ∀ I3 : qI, frN I2 I3 m → ∀ s, I3 (m + 30) s = I (m + 30) s := fun I3 z s => by rw [z _ _ (by omega) (by omega), f1 _ _ (by omega) (by omega), g1 _ _ (by omega) (by omega)]
      have fo : frO I I2 m 36 := fun b i q => by rw [f1 _ _ (by omega) (by omega)]; exact g1 b i (by omega) (by omega)
      have hb2 : sbM I2 m V.T.ng B := hB.cg (fun b i q => by rw [f1 _ _ (by omega) (by omega)]; exact g1 b i (by omega) (by omega))
      have ess := evE_sum hoC (la := fun _ => -8)
      have esv0 : seatVal V.T V.C 0 p = sumI (evE V.T (V.C.setOd (rowF p)) (fun _ => -8)).gl V.T.ng.toNat := rfl
      have esv1 : seatVal V.T V.C 1 p = leastI (evE V.T (V.C.setOd (rowF p)) (fun _ => -8)).gl (V.T.ng - 1).toNat := rfl
      refine wk_iload_n (i := 2) (q := 7) dX7_trySeats_6 rfl rfl rfl ?_
      refine wk_aload_n (i := 0) (q := 8) dX7_trySeats_7 rfl rfl rfl ?_
      refine wk_getI (fi := 5) (q := 11) dX7_trySeats_8 rfl fl_X7_125 rfl rfl hM.ob ?_
      refine wk_icmp_ge (t := 40) (q := 14) dX7_trySeats_11 rfl rfl (by omega) (by omega) (fun hc11 => ?_) (fun hc11 => ?_)
      · refine wk_aload_n (i := 0) (q := 41) dX7_trySeats_40 rfl rfl rfl ?_
        refine wk_cV0 (q := 44) dX7_trySeats_41 rfl vl_X7_227 ⟨_, _, rfl⟩ hM.ob (ct_nightC (C' := V.C.setOd (rowF p)) (la := fun _ => -8) hM t1 hoC h2.2.2.2.2.2.1 c2 (fun g g0 g1 => (f2 g g0 (by omega)).2) hLA (by rw [f1 _ _ (by omega) (by omega), g3]; exact sp.symm)) (qRo_m ok_X7_goNight (by decide) (Nat.le_refl _) (Nat.le_refl _)) (Nat.le_of_ble_eq_true rfl) (fun I41 L41 R41 hv41 => ?_)
        obtain ⟨rfl, rfl, k1, k2, k3⟩ := hv41
        have h3 : MI I41 m V := h2.fn k1
        have k4 := k3.2.2.2.1
        refine wk_iload_n (i := 1) (q := 45) dX7_trySeats_44 rfl rfl rfl ?_
        refine wk_if_ne (t := 55) (q := 48) dX7_trySeats_45 rfl rfl (by omega) (fun hc45 => ?_) (fun hc45 => ?_)
        · refine wk_aload_n (i := 0) (q := 56) dX7_trySeats_55 rfl rfl rfl ?_
          refine wk_cP0 (q := 59) dX7_trySeats_56 rfl vl_X7_269 ⟨_, _, rfl⟩ hM.ob (ct_X7_leastGlad hM h3.2.2.2.2.2.1.1 (by omega) (fun g g0 g1 => by rw [k4 g g0 g1]; exact evE_gl t1 hoC g0 g1)) (qRo_m ok_X7_leastGlad (by decide) (Nat.le_refl _) (Nat.le_refl _)) (Nat.le_of_ble_eq_true rfl) (fun v56 hv56 => ?_)
          refine wk_del (i := 2) (lo' := [(0, _), (1, _)]) rfl ?_
          skip
          first
            | exact at59 _ _ (by rw [show aim = 0 by omega, esv0, ← ess]; exact hv49) h3 (fo.tr k1.o) (pf _ k1) (hb2.cg (fun b i q => k1 b i (by omega) (by omega))) _ rfl
            | exact at59 _ _ (by rw [show aim = 1 by omega, esv1, hv56]; exact leastI_congr _ (fun g g0 g1 => k4 g g0 (by omega))) h3 (fo.tr k1.o) (pf _ k1) (hb2.cg (fun b i q => k1 b i (by omega) (by omega))) _ rfl
        · refine wk_aload_n (i := 0) (q := 49) dX7_trySeats_48 rfl rfl rfl ?_
          refine wk_cP0 (q := 52) dX7_trySeats_49 rfl vl_X7_230 ⟨_, _, rfl⟩ hM.ob (ct_allV hM t1 hoC k2 k4) (qRo_m ok_X7_allGlad (by decide) (Nat.le_refl _) (Nat.le_refl _)) (Nat.le_of_ble_eq_true rfl) (fun v49 hv49 => ?_)
          refine wk_goto (t := 59) dX7_trySeats_52 rfl ?_
          refine wk_del (i := 2) (lo' := [(0, _), (1, _)]) rfl ?_
          skip
          first
            | exact at59 _ _ (by rw [show aim = 0 by omega, esv0, ← ess]; exact hv49) h3 (fo.tr k1.o) (pf _ k1) (hb2.cg (fun b i q => k1 b i (by omega) (by omega))) _ rfl
            | exact at59 _ _ (by rw [show aim = 1 by omega, esv1, hv56]; exact leastI_congr _ (fun g g0 g1 => k4 g g0 (by omega))) h3 (fo.tr k1.o) (pf _ k1) (hb2.cg (fun b i q => k1 b i (by omega) (by omega))) _ rfl
      · omega
    · intro k hk ih I2 f1 f2
      have e5 : I2 m 5 = V.T.ng := by rw [f1 _ _ (by omega) (by omega)]; exact h1.2.2.2.2.2.1.1
      have ep : I2 (m + 30) (k : Int) = rowF p k := by rw [f1 _ _ (by omega) (by omega), g1 _ _ (by omega) (by omega)]; exact hpm k (by omega) (by omega)
      refine wk_iload_n (i := 2) (q := 7) dX7_trySeats_6 rfl rfl rfl ?_
      refine wk_aload_n (i := 0) (q := 8) dX7_trySeats_7 rfl rfl rfl ?_
      refine wk_getI (fi := 5) (q := 11) dX7_trySeats_8 rfl fl_X7_125 rfl rfl hM.ob ?_
      refine wk_icmp_ge (t := 40) (q := 14) dX7_trySeats_11 rfl rfl (by omega) (by omega) (fun hc11 => ?_) (fun hc11 => ?_)
      · omega
      · refine wk_aload_n (i := 0) (q := 15) dX7_trySeats_14 rfl rfl rfl ?_
        refine wk_getR (fi := 29) (q := 18) dX7_trySeats_15 rfl fl_X7_64 rfl rfl hM.ob hM.r29 ?_
        refine wk_iload_n (i := 2) (q := 19) dX7_trySeats_18 rfl rfl rfl ?_
        refine wk_aload_n (i := 0) (q := 20) dX7_trySeats_19 rfl rfl rfl ?_
        refine wk_getR (fi := 43) (q := 23) dX7_trySeats_20 rfl fl_X7_97 rfl rfl hM.ob hM.r43 ?_
        refine wk_iload_n (i := 2) (q := 24) dX7_trySeats_23 rfl rfl rfl ?_
        refine wk_iald (q := 25) dX7_trySeats_24 rfl hM.s43 (by omega) ?_
        refine wk_iast (q := 26) dX7_trySeats_25 rfl hM.s29 (by omega) ?_
        refine wk_aload_n (i := 0) (q := 27) dX7_trySeats_26 rfl rfl rfl ?_
        refine wk_getR (fi := 31) (q := 30) dX7_trySeats_27 rfl fl_X7_67 rfl rfl hM.ob hM.r31 ?_
        refine wk_iload_n (i := 2) (q := 31) dX7_trySeats_30 rfl rfl rfl ?_
        refine wk_bipush (q := 33) dX7_trySeats_31 rfl (by decide +kernel) ?_
        refine wk_iast (q := 34) dX7_trySeats_33 rfl hM.s31 (by omega) ?_
        refine wk_iinc (lo' := [(0, _), (1, _), (2, _)]) (q := 37) dX7_trySeats_34 rfl rfl (by decide) rfl ?_
        refine wk_goto (t := 6) dX7_trySeats_37 rfl ?_
        refine ih _ (fun b i q1 q2 => by rw [up_na _ _ _ _ q2, up_na _ _ _ _ q1]; exact f1 b i q1 q2) (fun s s0 s1 => ?_)
        rw [up_na _ _ _ _ (by omega)]
        by_cases e : s = (k : Int)
        · subst e
          rw [up_eq, up_eq]
          exact ⟨ep, rfl⟩
        · rw [up_ni _ _ e, up_ni _ _ e, up_na _ _ _ _ (by omega)]
          exact f2 s s0 (by omega)
  refine Ct.of (lo := [(0, _), (1, _)]) ok_X7_trySeats (Nat.le_of_ble_eq_true rfl) rfl ?_
  refine wk_aload_n (i := 0) (q := 1) dX7_trySeats_0 rfl rfl rfl ?_
  refine wk_cV0 (q := 4) dX7_trySeats_1 rfl vl_X7_224 ⟨_, _, rfl⟩ hM.ob (ct_lay hM h hp) (qRo_m ok_X7_layNow (by decide) (Nat.le_refl _) (Nat.le_refl _)) (Nat.le_of_ble_eq_true rfl) (fun I1 L1 R1 hv1 => ?_)
  obtain ⟨rfl, rfl, h1, f1, f2, f3, f4⟩ := hv1
  refine wk_iconst (q := 5) dX7_trySeats_4 rfl ?_
  refine wk_istore_n (i := 2) (lo' := [(0, _), (1, _), (2, _)]) (q := 6) dX7_trySeats_5 rfl rfl (by decide) rfl ?_
  exact loopA _ h1 f1.n f2 f4 0 (Nat.zero_le _) _ (fun _ _ _ _ => rfl) (fun s s0 s1 => by omega)
end SEATS5
