/-! SEATS, the class -/
theorem nxL_next {N : Nat} {p q : List Int} (h : nxL N p = some q) : nxi (rowF p) (N - 2) ≠ 0 ∧ ∀ s : Int, 0 ≤ s → s < N → nxF (rowF p) N s = rowF q s := by
  unfold nxL at h
  split at h
  · cases h
  · rename_i c
    refine ⟨c, fun s s0 s1 => ?_⟩
    cases h
    obtain ⟨k, rfl⟩ := Int.eq_ofNat_of_zero_le s0
    unfold rowF
    rw [Int.toNat_natCast, List.getD_eq_getElem?_getD, List.getElem?_map, List.getElem?_range (by omega)]
    rfl
theorem nxL_last {N : Nat} {p : List Int} (h : nxL N p = none) : nxi (rowF p) (N - 2) = 0 := by
  unfold nxL at h
  split at h
  · assumption
  · cases h
theorem chn_c {n : Nat} {p : List Int} : ∀ {r : List (List Int)}, chn n (p :: r) = true → ((r = [] → nxL n p = none) ∧ ∀ q r', r = q :: r' → nxL n p = some q) ∧ chn n r = true
  | [], h => by
    have z : ((nxL n p == none) && chn n []) = true := h
    rw [Bool.and_eq_true] at z
    exact ⟨⟨(fun _ => by simpa using z.1), (fun q r' e => by cases e)⟩, z.2⟩
  | q :: r, h => by
    have z : ((nxL n p == some q) && chn n (q :: r)) = true := h
    rw [Bool.and_eq_true] at z
    exact ⟨⟨(fun e => by cases e), (fun q' r' e => by cases e; simpa using z.1)⟩, z.2⟩
/-- what is kept of the best seatings so far, by an aim -/
def sbS (I : qI) (q : Nat) (ng : Int) (B : Int → Int × List Int) : Prop := ∀ aim : Int, 0 ≤ aim → aim < 2 → I (q + 1) aim = (B aim).1 ∧ (-1 ≤ (B aim).1 ∧ (B aim).1 ≤ 9576) ∧ ((B aim).1 = -1 ∨ ∀ s : Int, 0 ≤ s → s < ng → I (q + 3 + aim.toNat) s = rowF (B aim).2 s)
theorem sbS.w {I : qI} {q a : Nat} {ng : Int} {B : Int → Int × List Int} {T : TT} {C : CC} {p : List Int} {aim v : Int} (h : sbS I q ng B) (hm : 0 ≤ aim ∧ aim < 2) (haq : a < q) (hng : ng ≤ 7) (hp : ∀ s : Int, 0 ≤ s → s < ng → I a s = rowF p s) (hv : v = seatVal T C aim p) (hv2 : 0 ≤ v ∧ v ≤ 9576) : sbS (if I (q + 1) aim < v then cpI (up I (q + 1) aim v) a (q + 3 + aim.toNat) 0 0 7 else I) q ng (fun x => if x = aim then seatStep T C aim (B aim) p else B x) := by
  intro x x0 x1
  obtain ⟨e1, e2, e3⟩ := h aim hm.1 hm.2
  obtain ⟨g1, g2, g3⟩ := h x x0 x1
  have hs : seatStep T C aim (B aim) p = if (B aim).1 < seatVal T C aim p then (seatVal T C aim p, p) else B aim := rfl
  by_cases c : x = aim
  · subst c
    dsimp only
    rw [if_pos rfl, hs, ← hv, e1]
    by_cases d : (B x).1 < v
    · rw [if_pos d, if_pos d]
      refine ⟨by rw [cpI_ne (by omega), up_eq], by show -1 ≤ v ∧ v ≤ 9576; omega, Or.inr fun s s0 s1 => ?_⟩
      rw [cpI_in (by omega), up_na _ _ _ _ (by omega), show (0 : Int) + (s - 0) = s by omega]
      exact hp s s0 s1
    · rw [if_neg d, if_neg d]
      exact ⟨g1, g2, g3⟩
  · dsimp only
    rw [if_neg c]
    split
    · refine ⟨by rw [cpI_ne (by omega), up_ni _ _ c]; exact g1, g2, ?_⟩
      rcases g3 with y | y
      · exact Or.inl y
      · refine Or.inr fun s s0 s1 => ?_
        rw [cpI_ne (by omega), up_na _ _ _ _ (by omega)]
        exact y s s0 s1
    · exact ⟨g1, g2, g3⟩
theorem sbS.cg {I I' : qI} {q : Nat} {ng : Int} {B : Int → Int × List Int} (h : sbS I q ng B) (e : ∀ b i, q + 1 ≤ b → b < q + 5 → I' b i = I b i) : sbS I' q ng B := by
  intro x x0 x1
  obtain ⟨g1, g2, g3⟩ := h x x0 x1
  refine ⟨by rw [e _ _ (by omega) (by omega)]; exact g1, g2, ?_⟩
  rcases g3 with y | y
  · exact Or.inl y
  · refine Or.inr fun s s0 s1 => ?_
    rw [e _ _ (by omega) (by omega)]
    exact y s s0 s1
theorem shC.od {I I' : qI} {t : Nat} {T : TT} {C : CC} {od od' : Int → Int} (h : shC I t T (C.setOd od)) (hn : T.ng ≤ 7) (hf : ∀ b i, (b = t ∧ 5 ≤ i ∧ i ≤ 7) ∨ b = t + 16 ∨ (t + 19 ≤ b ∧ b < t + 26) → I' b i = I b i) (ho : ∀ s, 0 ≤ s → s < C.se → I' (t + 15) s = od' s) : shC I' t T (C.setOd od') := by
  refine ⟨by rw [hf _ _ (by omega)]; exact h.1, by rw [hf _ _ (by omega)]; exact h.2.1, by rw [hf _ _ (by omega)]; exact h.2.2.1, ho, fun g g0 g1 => ⟨by rw [hf _ _ (by omega)]; exact (h.2.2.2.2 g g0 g1).1, fun d d0 d1 => by rw [hf _ _ (by omega)]; exact (h.2.2.2.2 g g0 g1).2 d d0 d1⟩⟩
section SEATS3
variable {l : Launch} {E : qEv} {n : Nat} {sh : qSh} {I L : qI} {R : qR}
theorem ct_X2_find {q t o : Nat} {T : TT} {C : CC} (hQ : qSeat E.2.2 n sh R q) (hT : qTab E.2.2 n sh R t o) (hd : o + 14 ≤ t ∧ t + 38 ≤ q) (hok : T.ok) (hC : C.now T) (hsT : shT I o T) (hsC : shC I t T C) (h8 : I t 8 = -1) :
    Ct l E 4 mX2_find [.ref q, .ref t] (n, sh, I, L, R) 0 0 (qV n sh (fun I' L' R' => L' = L ∧ R' = R ∧ (∀ b i, ¬ (t ≤ b ∧ b < t + 38) → ¬ (q ≤ b ∧ b < q + 5) → I' b i = I b i) ∧ I' q 0 = 1 ∧ ∀ aim : Int, 0 ≤ aim → aim < 2 → I' (q + 1) aim = (seatBest T C aim).1 ∧ ∀ s : Int, 0 ≤ s → s < T.ng → I' (q + 3 + aim.toNat) s = (seatBest T C aim).2.getD s.toNat 0)) := by
  have hng := hok.2.1
  have hng0 := hok.1
  have hnd := hok.2.2.2.1
  have hse := hC.2.1
  obtain ⟨N, hN⟩ : ∃ N : Nat, T.ng = (N : Int) := ⟨T.ng.toNat, by omega⟩
  have hNt : T.ng.toNat = N := by omega
  have final : ∀ (B : Int → Int × List Int), (∀ aim : Int, 0 ≤ aim → aim < 2 → B aim = seatBest T C aim) → ∀ I1 : qI, (∀ b i, ¬ (t ≤ b ∧ b < t + 38) → ¬ (q ≤ b ∧ b < q + 5) → I1 b i = I b i) → sbS I1 q T.ng B → ∀ lo : List (Nat × Value), lo = [(0, .ref q)] → Wk l E (qmo E 4 n 0 0 (qV n sh (fun I' L' R' => L' = L ∧ R' = R ∧ (∀ b i, ¬ (t ≤ b ∧ b < t + 38) → ¬ (q ≤ b ∧ b < q + 5) → I' b i = I b i) ∧ I' q 0 = 1 ∧ ∀ aim : Int, 0 ≤ aim → aim < 2 → I' (q + 1) aim = (seatBest T C aim).1 ∧ ∀ s : Int, 0 ≤ s → s < T.ng → I' (q + 3 + aim.toNat) s = (seatBest T C aim).2.getD s.toNat 0))) mX2_find 0 0 98
      lo [] (n, sh, I1, L, R) := by
    intro B hB I1 f1 f2 lo hlo
    subst hlo
    refine wk_aload_n (i := 0) (q := 99) dX2_find_98 rfl rfl rfl ?_
    refine wk_iconst (q := 100) dX2_find_99 rfl ?_
    refine wk_putZ (fi := 0) (q := 103) dX2_find_100 rfl fl_X2_56 fw_2_0 rfl (by omega) rfl hQ.ob ?_
    refine wk_ret dX2_find_103 rfl ⟨Nat.le_refl _, Nat.le_refl _⟩ rfl ?_
    refine ⟨_, _, _, rfl, rfl, rfl, rfl, fun b i q1 q2 => by rw [up_na _ _ _ _ (by omega)]; exact f1 b i q1 q2, up_eq _ _ _ _, fun aim a0 a1 => ?_⟩
    obtain ⟨g1, g2, g3⟩ := f2 aim a0 a1
    have hb := seatBest_in hok hC aim
    rw [hB aim a0 a1] at g1 g3
    refine ⟨by rw [up_na _ _ _ _ (by omega)]; exact g1, fun s s0 s1 => ?_⟩
    rcases g3 with y | y
    · omega
    · rw [up_na _ _ _ _ (by omega)]
      exact y s s0 s1
  have loop : ∀ (rs : List (List Int)), chn N rs = true → (∀ p ∈ rs, pok N p) → ∀ (k : Nat), k + rs.length ≤ 720 → ∀ (B : Int → Int × List Int), (∀ aim : Int, 0 ≤ aim → aim < 2 → rs.foldl (seatStep T C aim) (B aim) = seatBest T C aim) → ∀ I1 : qI, (∀ b i, ¬ (t ≤ b ∧ b < t + 38) → ¬ (q ≤ b ∧ b < q + 5) → I1 b i = I b i) → sbS I1 q T.ng B → (∀ p r, rs = p :: r → shC I1 t T (C.setOd (rowF p)) ∧ I1 t 8 = -1) → Wk l E (qmo E 4 n 0 0 (qV n sh (fun I' L' R' => L' = L ∧ R' = R ∧ (∀ b i, ¬ (t ≤ b ∧ b < t + 38) → ¬ (q ≤ b ∧ b < q + 5) → I' b i = I b i) ∧ I' q 0 = 1 ∧ ∀ aim : Int, 0 ≤ aim → aim < 2 → I' (q + 1) aim = (seatBest T C aim).1 ∧ ∀ s : Int, 0 ≤ s → s < T.ng → I' (q + 3 + aim.toNat) s = (seatBest T C aim).2.getD s.toNat 0))) mX2_find 0 0 35
      [(0, .ref q), (1, .ref t), (2, .int (zI (if rs = [] then 0 else 1))), (3, .int (zI (k : Int)))] [] (n, sh, I1, L, R) := by
    intro rs
    induction rs with
    | nil =>
      intro _ _ k hk B hB I1 f1 f2 f3
      rw [if_pos rfl]
      refine wk_iload_n (i := 3) (q := 36) dX2_find_35 rfl rfl rfl ?_
      refine wk_sipush (q := 39) dX2_find_36 rfl (by decide +kernel) ?_
      refine wk_icmp_ge (t := 98) (q := 42) dX2_find_39 rfl rfl (by omega) (by omega) (fun hc39 => ?_) (fun hc39 => ?_)
      · refine wk_del (i := 3) (lo' := [(0, _), (1, _), (2, _)]) rfl ?_
        refine wk_del (i := 2) (lo' := [(0, _), (1, _)]) rfl ?_
        refine wk_del (i := 1) (lo' := [(0, _)]) rfl ?_
        exact final B hB _ f1 f2 _ rfl
      · refine wk_iload_n (i := 2) (q := 43) dX2_find_42 rfl rfl rfl ?_
        refine wk_if_eq (t := 98) (q := 46) dX2_find_43 rfl rfl (by omega) (fun hc43 => ?_) (fun hc43 => ?_)
        · refine wk_del (i := 3) (lo' := [(0, _), (1, _), (2, _)]) rfl ?_
          refine wk_del (i := 2) (lo' := [(0, _), (1, _)]) rfl ?_
          refine wk_del (i := 1) (lo' := [(0, _)]) rfl ?_
          exact final B hB _ f1 f2 _ rfl
        · omega
    | cons p rs ih =>
      intro hch hpk k hk B hB I1 f1 f2 f3
      have hk2 : k + (rs.length + 1) ≤ 720 := hk
      have hp := hpk p List.mem_cons_self
      obtain ⟨c1, c2⟩ := f3 p rs rfl
      have hp' : pok T.ng.toNat p := by rw [hNt]; exact hp
      have hoC := seatC_ok hC hp'
      have hv0 := seatVal_in hok hC hp' 0
      have hv1 := seatVal_in hok hC hp' 1
      have hLA : LAok T (fun _ => -8) := fun g g0 g1 => by
        have := hok.2.2.1
        show -9 ≤ (-8 : Int) ∧ (-8 : Int) < T.nd
        omega
      have hm : (if p :: rs = [] then (0 : Int) else 1) = 1 := if_neg (by simp)
      rw [hm]
      have e7 : ∀ I2 : qI, (∀ b i, ¬ (t ≤ b ∧ b < t + 38) → ¬ (q ≤ b ∧ b < q + 5) → I2 b i = I b i) → shT I2 o T := fun I2 h => hsT.cg hng (fun b i q1 q2 => h b i (by omega) (by omega))
      refine wk_iload_n (i := 3) (q := 36) dX2_find_35 rfl rfl rfl ?_
      refine wk_sipush (q := 39) dX2_find_36 rfl (by decide +kernel) ?_
      refine wk_icmp_ge (t := 98) (q := 42) dX2_find_39 rfl rfl (by omega) (by omega) (fun hc39 => ?_) (fun hc39 => ?_)
      · omega
      · refine wk_iload_n (i := 2) (q := 43) dX2_find_42 rfl rfl rfl ?_
        refine wk_if_eq (t := 98) (q := 46) dX2_find_43 rfl rfl (by omega) (fun hc43 => ?_) (fun hc43 => ?_)
        · omega
        · refine wk_aload_n (i := 1) (q := 47) dX2_find_46 rfl rfl rfl ?_
          refine wk_cV0 (q := 50) dX2_find_47 rfl vl_X2_35 ⟨_, _, rfl⟩ hT.1.ob (ct_X4_clearMemory hT) (qRo_m ok_X4_clearMemory (by decide) (Nat.le_refl _) (Nat.le_refl _)) (Nat.le_of_ble_eq_true rfl) (fun I47 L47 R47 hv47 => ?_)
          obtain ⟨rfl, rfl, rfl⟩ := hv47
          have k1 : ∀ b i, b ≠ t + 17 → fillI I1 (t + 17) 7 (-8) b i = I1 b i := fun b i z => fillI_ne _ _ _ z
          have k2 := e7 (fillI I1 (t + 17) 7 (-8)) (fun b i q1 q2 => by rw [k1 _ _ (by omega)]; exact f1 b i q1 q2)
          refine wk_aload_n (i := 1) (q := 51) dX2_find_50 rfl rfl rfl ?_
          refine wk_cV0 (q := 54) dX2_find_51 rfl vl_X2_38 ⟨_, _, rfl⟩ hT.1.ob (ct_X4_evening (C := C.setOd (rowF p)) (la := fun _ => -8) hT hd.1 hok hoC k2 (c1.cg hng (fun b i z => k1 _ _ (by omega))) (fun g g0 g1 => fillI_in (by omega)) hLA (by rw [k1 _ _ (by omega), c2]; exact hC.2.2.2.1.symm)) (qRo_m ok_X4_evening (by decide) (Nat.le_refl _) (Nat.le_refl _)) (Nat.le_of_ble_eq_true rfl) (fun I51 L51 R51 hv51 => ?_)
          obtain ⟨rfl, rfl, g1, g2, g3, g4⟩ := hv51
          have m1 : ∀ b i, ¬ (b = t ∧ i = 8) → b ≠ t + 17 → b ≠ t + 26 → ¬ (t + 28 ≤ b ∧ b < t + 38) → I51 b i = I1 b i := fun b i z1 z2 z3 z4 => (g1 b i z1 z2 z3 z4).trans (k1 _ _ z2)
          have m2 : ∀ b i, ¬ (t ≤ b ∧ b < t + 38) → ¬ (q ≤ b ∧ b < q + 5) → I51 b i = I b i := fun b i q1 q2 => (m1 b i (by omega) (by omega) (by omega) (by omega)).trans (f1 b i q1 q2)
          have m3 : shC I51 t T (C.setOd (rowF p)) := c1.cg hng (fun b i z => m1 b i (by omega) (by omega) (by omega) (by omega))
          have m4 := f2.cg (fun b i q1 q2 => m1 b i (by omega) (by omega) (by omega) (by omega))
          have m5 : ∀ s : Int, 0 ≤ s → s < T.ng → I51 (t + 15) s = rowF p s := fun s s0 s1 => m3.2.2.2.1 s s0 (by show s < C.se; omega)
          have mg := fun (g : Int) (g0 : 0 ≤ g) (g1 : g < T.ng) => (g3.2 g g0 g1).2.1
          refine wk_aload_n (i := 0) (q := 55) dX2_find_54 rfl rfl rfl ?_
          refine wk_iconst (q := 56) dX2_find_55 rfl ?_
          refine wk_aload_n (i := 1) (q := 57) dX2_find_56 rfl rfl rfl ?_
          refine wk_cP0 (q := 60) dX2_find_57 rfl vl_X2_41 ⟨_, _, rfl⟩ hT.1.ob (ct_X4_gladInAll hT (e7 _ m2).2.1 (by omega)) (qRo_m ok_X4_gladInAll (by decide) (Nat.le_refl _) (Nat.le_refl _)) (Nat.le_of_ble_eq_true rfl) (fun v57 hv57 => ?_)
          have hv : v57 = seatVal T C 0 p := by
            rw [hv57]
            exact sumI_congr _ (fun g g0 g1 => mg g g0 (by omega))
          have n0 := (m4 0 (by omega) (by omega)).1
          have n0' := (m4 0 (by omega) (by omega)).2.1
          refine wk_aload_n (i := 1) (q := 61) dX2_find_60 rfl rfl rfl ?_
          refine wk_getR (fi := 1) (q := 64) dX2_find_61 rfl fl_X2_32 rfl rfl hT.1.ob hT.1.r1 ?_
          refine wk_cV3 (q := 67) dX2_find_64 rfl vl_X2_45 ⟨_, _, rfl⟩ hQ.ob (ct_X2_weigh hQ hT.1.s1 (by omega) (by omega) (by omega) (by omega)) (qRo_m ok_X2_weigh (by decide) (Nat.le_refl _) (Nat.le_refl _)) (Nat.le_of_ble_eq_true rfl) (fun I64 L64 R64 hv64 => ?_)
          obtain ⟨rfl, rfl, w1⟩ := hv64
          have m6 := m4.w (aim := 0) (a := t + 15) (by omega) (by omega) hng m5 hv (by omega)
          rw [← w1] at m6
          have m7 : ∀ b i, ¬ (q ≤ b ∧ b < q + 5) → I64 b i = I51 b i := fun b i z => by
            rw [w1]
            split
            · rw [cpI_ne (by omega), up_na _ _ _ _ (by omega)]
            · rfl
          refine wk_aload_n (i := 0) (q := 68) dX2_find_67 rfl rfl rfl ?_
          refine wk_iconst (q := 69) dX2_find_68 rfl ?_
          refine wk_aload_n (i := 1) (q := 70) dX2_find_69 rfl rfl rfl ?_
          refine wk_cP0 (q := 73) dX2_find_70 rfl vl_X2_49 ⟨_, _, rfl⟩ hT.1.ob (ct_X4_gladOfLeast hT (ng := T.ng) (by rw [m7 _ _ (by omega)]; exact (e7 _ m2).2.1) (by omega) (fun g g0 g1 => by rw [m7 _ _ (by omega), mg g g0 g1]; exact evE_gl hok hoC g0 g1)) (qRo_m ok_X4_gladOfLeast (by decide) (Nat.le_refl _) (Nat.le_refl _)) (Nat.le_of_ble_eq_true rfl) (fun v70 hv70 => ?_)
          have hw : v70 = seatVal T C 1 p := by
            rw [hv70]
            exact leastI_congr _ (fun g g0 g1 => by rw [m7 _ _ (by omega)]; exact mg g g0 (by omega))
          have n1 := (m6 1 (by omega) (by omega)).1
          have n1' := (m6 1 (by omega) (by omega)).2.1
          refine wk_aload_n (i := 1) (q := 74) dX2_find_73 rfl rfl rfl ?_
          refine wk_getR (fi := 1) (q := 77) dX2_find_74 rfl fl_X2_32 rfl rfl hT.1.ob hT.1.r1 ?_
          refine wk_cV3 (q := 80) dX2_find_77 rfl vl_X2_45 ⟨_, _, rfl⟩ hQ.ob (ct_X2_weigh hQ hT.1.s1 (by omega) (by omega) (by omega) (by omega)) (qRo_m ok_X2_weigh (by decide) (Nat.le_refl _) (Nat.le_refl _)) (Nat.le_of_ble_eq_true rfl) (fun I77 L77 R77 hv77 => ?_)
          obtain ⟨rfl, rfl, w2⟩ := hv77
          have m8 := m6.w (aim := 1) (a := t + 15) (by omega) (by omega) hng (fun s s0 s1 => by rw [m7 _ _ (by omega)]; exact m5 s s0 s1) hw (by omega)
          rw [← w2] at m8
          have m9 : ∀ b i, ¬ (q ≤ b ∧ b < q + 5) → I77 b i = I51 b i := fun b i z => by
            rw [w2]
            split
            · rw [cpI_ne (by omega), up_na _ _ _ _ (by omega)]
              exact m7 b i z
            · exact m7 b i z
          have e5 : I77 t 5 = (N : Int) := by
            rw [m9 _ _ (by omega), m3.1]
            show C.se = _
            omega
          refine wk_aload_n (i := 1) (q := 81) dX2_find_80 rfl rfl rfl ?_
          refine wk_getR (fi := 1) (q := 84) dX2_find_81 rfl fl_X2_32 rfl rfl hT.1.ob hT.1.r1 ?_
          refine wk_aload_n (i := 1) (q := 85) dX2_find_84 rfl rfl rfl ?_
          refine wk_getI (fi := 5) (q := 88) dX2_find_85 rfl fl_X2_26 rfl rfl hT.1.ob ?_
          rw [e5]
          refine wk_sZ2 (q := 91) dX2_find_88 rfl sl_X2_52 (ct_X2_isNextRow (N := N) (f := rowF p) hT.1.s1 (by omega) (fun s s0 s1 => by rw [m9 _ _ (by omega)]; exact m5 s s0 (by omega)) (fun s s0 s1 => by have := hp.2.1 s s0 s1; omega)) (qRo_m ok_X2_isNextRow (by decide) (Nat.le_refl _) (Nat.le_refl _)) (Nat.le_of_ble_eq_true rfl) (fun v88 I88 L88 R88 hv88 => ?_)
          obtain ⟨rfl, rfl, x1, x2⟩ := hv88
          refine wk_istore_n (i := 2) (lo' := [(0, _), (1, _), (2, _), (3, _)]) (q := 92) dX2_find_91 rfl rfl (by decide) rfl ?_
          refine wk_iinc (lo' := [(0, _), (1, _), (2, _), (3, _)]) (q := 95) dX2_find_92 rfl rfl (by decide) rfl ?_
          refine wk_goto (t := 35) dX2_find_95 rfl ?_
          have hch2 := chn_c hch
          have hgo := ih hch2.2 (fun r hr => hpk r (List.mem_cons_of_mem _ hr)) (k + 1) (by omega) (fun x => if x = 1 then seatStep T C 1 (if (1 : Int) = 0 then seatStep T C 0 (B 0) p else B 1) p else if x = 0 then seatStep T C 0 (B 0) p else B x) (fun aim a0 a1 => by
              rw [← hB aim a0 a1]
              show _ = rs.foldl (seatStep T C aim) (seatStep T C aim (B aim) p)
              rcases (by omega : aim = 0 ∨ aim = 1) with rfl | rfl <;> rfl) I88 (fun b i q1 q2 => by rw [x1 _ _ (by omega), m9 _ _ q2]; exact m2 b i q1 q2) (m8.cg (fun b i q1 q2 => x1 b i (by omega)))
          cases rs with
          | nil =>
            have y := nxL_last (N := N) (p := p) (hch2.1.1 rfl)
            have yv : v88 = 0 := by
              rcases x2 with ⟨_, z⟩ | ⟨z, _⟩
              · exact z
              · exact absurd y z
            rw [yv]
            have hz := hgo (fun p r e => by cases e)
            rw [if_pos rfl] at hz
            exact hz
          | cons r rs =>
            obtain ⟨y1, y2⟩ := nxL_next (N := N) (p := p) (q := r) (hch2.1.2 r rs rfl)
            have yv : v88 = 1 ∧ ∀ s : Int, 0 ≤ s → s < N → I88 (t + 15) s = nxF (rowF p) N s := by
              rcases x2 with ⟨z, _⟩ | ⟨_, z⟩
              · exact absurd z y1
              · exact z
            rw [yv.1]
            have hz := hgo (fun p' r' e => by
              cases e
              refine ⟨m3.od hng (fun b i z => by rw [x1 _ _ (by omega), m9 _ _ (by omega)]) (fun s s0 s1 => (yv.2 s s0 (by omega)).trans (y2 s s0 (by omega))), by rw [x1 _ _ (by omega), m9 _ _ (by omega)]; exact g2⟩)
            rw [if_neg (by simp)] at hz
            exact hz
  have lay : ∀ k : Nat, k ≤ N → ∀ I1 : qI, (∀ b i, b ≠ t + 15 → b ≠ q + 1 → I1 b i = I b i) → (∀ s : Int, 0 ≤ s → s < k → I1 (t + 15) s = s) → sbS I1 q T.ng (fun _ => (-1, [])) → Wk l E (qmo E 4 n 0 0 (qV n sh (fun I' L' R' => L' = L ∧ R' = R ∧ (∀ b i, ¬ (t ≤ b ∧ b < t + 38) → ¬ (q ≤ b ∧ b < q + 5) → I' b i = I b i) ∧ I' q 0 = 1 ∧ ∀ aim : Int, 0 ≤ aim → aim < 2 → I' (q + 1) aim = (seatBest T C aim).1 ∧ ∀ s : Int, 0 ≤ s → s < T.ng → I' (q + 3 + aim.toNat) s = (seatBest T C aim).2.getD s.toNat 0))) mX2_find 0 0 10
      [(0, .ref q), (1, .ref t), (2, .int (zI (k : Int)))] [] (n, sh, I1, L, R) := by
    obtain ⟨r1, r2, r3, r, r4⟩ := rowsN_ok (n := N) (by omega)
    refine up_ind N ?_ ?_
    · intro I1 f1 f2 f3
      have e5 : I1 t 5 = T.ng := by rw [f1 _ _ (by omega) (by omega), hsC.1]; exact hse
      refine wk_iload_n (i := 2) (q := 11) dX2_find_10 rfl rfl rfl ?_
      refine wk_aload_n (i := 1) (q := 12) dX2_find_11 rfl rfl rfl ?_
      refine wk_getI (fi := 5) (q := 15) dX2_find_12 rfl fl_X2_26 rfl rfl hT.1.ob ?_
      refine wk_icmp_ge (t := 31) (q := 18) dX2_find_15 rfl rfl (by omega) (by omega) (fun hc15 => ?_) (fun hc15 => ?_)
      · refine wk_iconst (q := 32) dX2_find_31 rfl ?_
        refine wk_istore_n (i := 2) (lo' := [(0, _), (1, _), (2, _)]) (q := 33) dX2_find_32 rfl rfl (by decide) rfl ?_
        refine wk_iconst (q := 34) dX2_find_33 rfl ?_
        refine wk_istore_n (i := 3) (lo' := [(0, _), (1, _), (2, _), (3, _)]) (q := 35) dX2_find_34 rfl rfl (by decide) rfl ?_
        have hl := loop (rowsN N) r1 r2 0 (by omega) (fun _ => (-1, [])) (fun aim _ _ => by unfold seatBest; rw [hNt]) I1 (fun b i q1 q2 => f1 b i (by omega) (by omega)) f3 (fun p r' e => by
          rw [r4] at e
          cases e
          have hz : shC I t T (C.setOd C.od) := hsC
          refine ⟨hz.od hng (fun b i z => f1 b i (by omega) (by omega)) (fun s s0 s1 => ?_), by rw [f1 _ _ (by omega) (by omega)]; exact h8⟩
          rw [f2 s s0 (by omega)]
          obtain ⟨j, rfl⟩ := Int.eq_ofNat_of_zero_le s0
          unfold rowF
          rw [Int.toNat_natCast, List.getD_eq_getElem?_getD, List.getElem?_map, List.getElem?_range (by omega)]
          rfl)
        rw [if_neg (by rw [r4]; simp)] at hl
        exact hl
      · omega
    · intro k hk ih I1 f1 f2 f3
      have e5 : I1 t 5 = T.ng := by rw [f1 _ _ (by omega) (by omega), hsC.1]; exact hse
      refine wk_iload_n (i := 2) (q := 11) dX2_find_10 rfl rfl rfl ?_
      refine wk_aload_n (i := 1) (q := 12) dX2_find_11 rfl rfl rfl ?_
      refine wk_getI (fi := 5) (q := 15) dX2_find_12 rfl fl_X2_26 rfl rfl hT.1.ob ?_
      refine wk_icmp_ge (t := 31) (q := 18) dX2_find_15 rfl rfl (by omega) (by omega) (fun hc15 => ?_) (fun hc15 => ?_)
      · omega
      · refine wk_aload_n (i := 1) (q := 19) dX2_find_18 rfl rfl rfl ?_
        refine wk_getR (fi := 1) (q := 22) dX2_find_19 rfl fl_X2_32 rfl rfl hT.1.ob hT.1.r1 ?_
        refine wk_iload_n (i := 2) (q := 23) dX2_find_22 rfl rfl rfl ?_
        refine wk_iload_n (i := 2) (q := 24) dX2_find_23 rfl rfl rfl ?_
        refine wk_iast (q := 25) dX2_find_24 rfl hT.1.s1 (by omega) ?_
        refine wk_iinc (lo' := [(0, _), (1, _), (2, _)]) (q := 28) dX2_find_25 rfl rfl (by decide) rfl ?_
        refine wk_goto (t := 10) dX2_find_28 rfl ?_
        refine ih _ (fun b i q1 q2 => by rw [up_na _ _ _ _ q1]; exact f1 b i q1 q2) (fun s s0 s1 => ?_) (f3.cg (fun b i q1 q2 => up_na _ _ _ _ (by omega)))
        by_cases e : s = (k : Int)
        · subst e
          exact up_eq _ _ _ _
        · rw [up_ni _ _ e]
          exact f2 s s0 (by omega)
  refine Ct.of (lo := [(0, _), (1, _)]) ok_X2_find (Nat.le_of_ble_eq_true rfl) rfl ?_
  refine wk_aload_n (i := 0) (q := 1) dX2_find_0 rfl rfl rfl ?_
  refine wk_getR (fi := 1) (q := 4) dX2_find_1 rfl fl_X2_11 rfl rfl hQ.ob hQ.r1 ?_
  refine wk_iconst (q := 5) dX2_find_4 rfl ?_
  refine wk_sV2 (q := 8) dX2_find_5 rfl sl_X2_20 (ct_fillI hQ.s1) (qRo_m ok_J7_fill_53178 (by decide) (Nat.le_refl _) (Nat.le_refl _)) (Nat.le_of_ble_eq_true rfl) (fun I5 L5 R5 hv5 => ?_)
  obtain ⟨rfl, rfl, rfl⟩ := hv5
  refine wk_iconst (q := 9) dX2_find_8 rfl ?_
  refine wk_istore_n (i := 2) (lo' := [(0, _), (1, _), (2, _)]) (q := 10) dX2_find_9 rfl rfl (by decide) rfl ?_
  exact lay 0 (Nat.zero_le _) _ (fun b i q1 q2 => fillI_ne _ _ _ q2) (fun s s0 s1 => by omega) (fun aim a0 a1 => ⟨fillI_in (by omega), (by show (-1 : Int) ≤ -1 ∧ (-1 : Int) ≤ 9576; decide), Or.inl rfl⟩)
end SEATS3
