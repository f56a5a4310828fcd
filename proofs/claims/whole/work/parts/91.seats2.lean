/-! SEATS: rows are seatings; the class makes the next row -/
theorem rows_ok {n : Nat} (h : 2 ≤ n ∧ n ≤ 7) : rowsB n = true := by
  rcases (by omega : n = 2 ∨ n = 3 ∨ n = 4 ∨ n = 5 ∨ n = 6 ∨ n = 7) with rfl | rfl | rfl | rfl | rfl | rfl
  · exact rows_2
  · exact rows_3
  · exact rows_4
  · exact rows_5
  · exact rows_6
  · exact rows_7
def pok (n : Nat) (p : List Int) : Prop := p.length = n ∧ (∀ s : Int, 0 ≤ s → s < n → 0 ≤ rowF p s ∧ rowF p s < n) ∧ ∀ s s' : Int, 0 ≤ s → s < n → 0 ≤ s' → s' < n → rowF p s = rowF p s' → s = s'
theorem pokB_ok {n : Nat} {p : List Int} (h : pokB n p = true) : pok n p := by
  unfold pokB at h
  rw [Bool.and_eq_true, List.all_eq_true] at h
  obtain ⟨h1, h2⟩ := h
  have key : ∀ i : Nat, i < n → (0 ≤ p.getD i 0 ∧ p.getD i 0 < (n : Int)) ∧ ∀ j : Nat, j < n → i = j ∨ p.getD i 0 ≠ p.getD j 0 := fun i hi => by
    have a := h2 i (List.mem_range.mpr hi)
    rw [Bool.and_eq_true, Bool.and_eq_true, List.all_eq_true] at a
    obtain ⟨⟨a1, a2⟩, a3⟩ := a
    refine ⟨⟨of_decide_eq_true a1, of_decide_eq_true a2⟩, fun j hj => ?_⟩
    have b := a3 j (List.mem_range.mpr hj)
    rw [Bool.or_eq_true] at b
    rcases b with b | b
    · exact Or.inl (by simpa using b)
    · exact Or.inr (by simpa using b)
  refine ⟨by simpa using h1, fun s s0 s1 => (key s.toNat (by omega)).1, fun s s' s0 s1 s0' s1' e => ?_⟩
  rcases (key s.toNat (by omega)).2 s'.toNat (by omega) with q | q
  · omega
  · exact absurd e q
theorem rowsN_ok {n : Nat} (h : 2 ≤ n ∧ n ≤ 7) : chn n (rowsN n) = true ∧ (∀ p ∈ rowsN n, pok n p) ∧ (rowsN n).length ≤ 720 ∧ ∃ r, rowsN n = ((List.range n).map (fun k : Nat => (k : Int))) :: r := by
  have a := rows_ok h
  unfold rowsB at a
  rw [Bool.and_eq_true, Bool.and_eq_true, Bool.and_eq_true] at a
  obtain ⟨⟨⟨a1, a2⟩, a3⟩, a4⟩ := a
  rw [List.all_eq_true] at a2
  refine ⟨a1, fun p hp => pokB_ok (a2 p hp), of_decide_eq_true a3, ?_⟩
  cases hr : rowsN n with
  | nil =>
    rw [hr] at a4
    cases a4
  | cons p r =>
    rw [hr] at a4
    have e : some p = some ((List.range n).map (fun k : Nat => (k : Int))) := by simpa using a4
    cases e
    exact ⟨r, rfl⟩
theorem setOd_ok {T : TT} {C : CC} (h : C.ok T) {od : Int → Int} (h1 : ∀ s, 0 ≤ s → s < C.se → 0 ≤ od s ∧ od s < T.ng) (h2 : ∀ s s', 0 ≤ s → s < C.se → 0 ≤ s' → s' < C.se → od s = od s' → s = s') : (C.setOd od).ok T := by
  obtain ⟨z1, z2, z3, z4, z5, z6, z7, z8, z9, z10, z11⟩ := h
  exact ⟨z1, z2, z3, z4, z5, z6, z7, z8, h1, h2, z11⟩
theorem seatC_ok {T : TT} {C : CC} (hC : C.now T) {p : List Int} (hp : pok T.ng.toNat p) : (C.setOd (rowF p)).ok T := by
  have hse := hC.2.1
  exact setOd_ok hC.1 (fun s s0 s1 => by have := hp.2.1 s s0 (by omega); omega) (fun s s' s0 s1 s0' s1' e => hp.2.2 s s' s0 (by omega) s0' (by omega) e)
theorem leastI_bd {f : Int → Int} {B : Int} : ∀ k : Nat, (∀ g : Int, 0 ≤ g → g ≤ k → 0 ≤ f g ∧ f g ≤ B) → 0 ≤ leastI f k ∧ leastI f k ≤ B
  | 0, h => h 0 (by omega) (by omega)
  | k + 1, h => by
    have ih := leastI_bd k (fun g g0 g1 => h g g0 (by omega))
    have a := h ((k : Int) + 1) (by omega) (by omega)
    show 0 ≤ min (leastI f k) (f ((k : Int) + 1)) ∧ min (leastI f k) (f ((k : Int) + 1)) ≤ B
    omega
theorem leastI_congr {f g : Int → Int} : ∀ k : Nat, (∀ i : Int, 0 ≤ i → i ≤ k → f i = g i) → leastI f k = leastI g k
  | 0, h => h 0 (by omega) (by omega)
  | k + 1, h => by
    show min (leastI f k) (f ((k : Int) + 1)) = min (leastI g k) (g ((k : Int) + 1))
    rw [leastI_congr k (fun i i0 i1 => h i i0 (by omega)), h _ (by omega) (by omega)]
theorem seatVal_in {T : TT} (hT : T.ok) {C : CC} (hC : C.now T) {p : List Int} (hp : pok T.ng.toNat p) (aim : Int) : 0 ≤ seatVal T C aim p ∧ seatVal T C aim p ≤ 9576 := by
  have hok := seatC_ok hC hp
  have hng := hT.2.1
  have hng0 := hT.1
  unfold seatVal
  split
  · exact gl_sum hT hok
  · have := leastI_bd (f := (evE T (C.setOd (rowF p)) (fun _ => -8)).gl) (B := 1368) (T.ng - 1).toNat (fun g g0 g1 => evE_gl hT hok g0 (by omega))
    exact ⟨this.1, Int.le_trans this.2 (by decide)⟩
theorem seatStep_in {T : TT} (hT : T.ok) {C : CC} (hC : C.now T) {p : List Int} (hp : pok T.ng.toNat p) {aim : Int} {b : Int × List Int} (hb : -1 ≤ b.1 ∧ b.1 ≤ 9576) : 0 ≤ (seatStep T C aim b p).1 ∧ b.1 ≤ (seatStep T C aim b p).1 ∧ (seatStep T C aim b p).1 ≤ 9576 := by
  have := seatVal_in hT hC hp aim
  unfold seatStep
  split
  · show 0 ≤ seatVal T C aim p ∧ b.1 ≤ seatVal T C aim p ∧ seatVal T C aim p ≤ 9576
    omega
  · omega
theorem seatFold_in {T : TT} (hT : T.ok) {C : CC} (hC : C.now T) {aim : Int} : ∀ (l : List (List Int)), (∀ p ∈ l, pok T.ng.toNat p) → ∀ b : Int × List Int, -1 ≤ b.1 ∧ b.1 ≤ 9576 → b.1 ≤ (l.foldl (seatStep T C aim) b).1 ∧ (l.foldl (seatStep T C aim) b).1 ≤ 9576
  | [], _, b, hb => ⟨Int.le_refl _, hb.2⟩
  | p :: r, h, b, hb => by
    have s := seatStep_in hT hC (h p List.mem_cons_self) (aim := aim) hb
    have ih := seatFold_in hT hC (aim := aim) r (fun q hq => h q (List.mem_cons_of_mem _ hq)) (seatStep T C aim b p) (by omega)
    show b.1 ≤ (r.foldl (seatStep T C aim) (seatStep T C aim b p)).1 ∧ (r.foldl (seatStep T C aim) (seatStep T C aim b p)).1 ≤ 9576
    omega
theorem seatBest_in {T : TT} (hT : T.ok) {C : CC} (hC : C.now T) (aim : Int) : 0 ≤ (seatBest T C aim).1 ∧ (seatBest T C aim).1 ≤ 9576 := by
  have hng := hT.2.1
  have hng0 := hT.1
  obtain ⟨a1, a2, a3, r, e⟩ := rowsN_ok (n := T.ng.toNat) (by omega)
  unfold seatBest
  rw [e] at a2 ⊢
  have s := seatStep_in hT hC (a2 _ List.mem_cons_self) (aim := aim) (b := (-1, [])) (by decide)
  have f := seatFold_in hT hC (aim := aim) r (fun q hq => a2 q (List.mem_cons_of_mem _ hq)) (seatStep T C aim (-1, []) ((List.range T.ng.toNat).map (fun k : Nat => (k : Int)))) (by omega)
  show 0 ≤ (r.foldl (seatStep T C aim) (seatStep T C aim (-1, []) ((List.range T.ng.toNat).map (fun k : Nat => (k : Int))))).1 ∧ (r.foldl (seatStep T C aim) (seatStep T C aim (-1, []) ((List.range T.ng.toNat).map (fun k : Nat => (k : Int))))).1 ≤ 9576
  omega
section SEATS2
variable {l : Launch} {E : qEv} {n : Nat} {sh : qSh} {I L : qI} {R : qR}
theorem ct_X2_exchange {a : Nat} {i j : Int} (ha : isC E.2.2 n sh a 0 7) (hi : 0 ≤ i ∧ i < 7) (hj : 0 ≤ j ∧ j < 7) :
    Ct l E 0 mX2_exchange [.ref a, .int (zI i), .int (zI j)] (n, sh, I, L, R) 0 0 (qV n sh (fun I' L' R' => L' = L ∧ R' = R ∧ (∀ b s, b ≠ a → I' b s = I b s) ∧ ∀ s, I' a s = exF (I a) i j s)) := by
  refine Ct.of (lo := [(0, _), (1, _), (2, _)]) ok_X2_exchange (Nat.le_of_ble_eq_true rfl) rfl ?_
  refine wk_aload_n (i := 0) (q := 1) dX2_exchange_0 rfl rfl rfl ?_
  refine wk_iload_n (i := 1) (q := 2) dX2_exchange_1 rfl rfl rfl ?_
  refine wk_iald (q := 3) dX2_exchange_2 rfl ha (by omega) ?_
  refine wk_istore_n (i := 3) (lo' := [(0, _), (1, _), (2, _), (3, _)]) (q := 4) dX2_exchange_3 rfl rfl (by decide) rfl ?_
  refine wk_aload_n (i := 0) (q := 5) dX2_exchange_4 rfl rfl rfl ?_
  refine wk_iload_n (i := 1) (q := 6) dX2_exchange_5 rfl rfl rfl ?_
  refine wk_aload_n (i := 0) (q := 7) dX2_exchange_6 rfl rfl rfl ?_
  refine wk_iload_n (i := 2) (q := 8) dX2_exchange_7 rfl rfl rfl ?_
  refine wk_iald (q := 9) dX2_exchange_8 rfl ha (by omega) ?_
  refine wk_iast (q := 10) dX2_exchange_9 rfl ha (by omega) ?_
  refine wk_aload_n (i := 0) (q := 11) dX2_exchange_10 rfl rfl rfl ?_
  refine wk_iload_n (i := 2) (q := 12) dX2_exchange_11 rfl rfl rfl ?_
  refine wk_iload_n (i := 3) (q := 13) dX2_exchange_12 rfl rfl rfl ?_
  refine wk_iast (q := 14) dX2_exchange_13 rfl ha (by omega) ?_
  refine wk_ret dX2_exchange_14 rfl ⟨Nat.le_refl _, Nat.le_refl _⟩ rfl ?_
  refine ⟨_, _, _, rfl, rfl, rfl, rfl, fun b s q => by rw [up_na _ _ _ _ q, up_na _ _ _ _ q], fun s => ?_⟩
  unfold exF
  by_cases c : s = j
  · subst c
    rw [up_eq, if_pos rfl]
  · rw [up_ni _ _ c, if_neg c]
    by_cases d : s = i
    · subst d
      rw [up_eq, if_pos rfl]
    · rw [up_ni _ _ d, if_neg d]
theorem ct_X2_isNextRow {a N : Nat} {f : Int → Int} (ha : isC E.2.2 n sh a 0 7) (hN : 2 ≤ N ∧ N ≤ 7) (hf : ∀ s : Int, 0 ≤ s → s < N → I a s = f s) (hb : ∀ s : Int, 0 ≤ s → s < N → 0 ≤ f s ∧ f s < 7) :
    Ct l E 1 mX2_isNextRow [.ref a, .int (zI (N : Int))] (n, sh, I, L, R) 0 0 (qZ n sh (fun v I' L' R' => L' = L ∧ R' = R ∧ (∀ b s, b ≠ a → I' b s = I b s) ∧ ((nxi f (N - 2) = 0 ∧ v = 0) ∨ (nxi f (N - 2) ≠ 0 ∧ v = 1 ∧ ∀ s : Int, 0 ≤ s → s < N → I' a s = nxF f N s)))) := by
  have loop3 : nxi f (N - 2) ≠ 0 → ∀ (k : Nat) (h : Int → Int) (A B : Nat) (I1 : qI), B ≤ A + 2 * k → A ≤ N → B < N → (∀ b s, b ≠ a → I1 b s = I b s) → (∀ s : Int, 0 ≤ s → s < N → I1 a s = h s) → (∀ s : Int, 0 ≤ s → s < N → rvF k h A B s = nxF f N s) → Wk l E (qmo E 1 n 0 0 (qZ n sh (fun v I' L' R' => L' = L ∧ R' = R ∧ (∀ b s, b ≠ a → I' b s = I b s) ∧ ((nxi f (N - 2) = 0 ∧ v = 0) ∨ (nxi f (N - 2) ≠ 0 ∧ v = 1 ∧ ∀ s : Int, 0 ≤ s → s < N → I' a s = nxF f N s))))) mX2_isNextRow 0 0 73
      [(0, .ref a), (4, .int (zI (A : Int))), (5, .int (zI (B : Int)))] [] (n, sh, I1, L, R) := by
    intro hi k
    induction k with
    | zero =>
      intro h A B I1 q1 q2 q3 f1 f2 f3
      refine wk_iload (i := 4) (q := 75) dX2_isNextRow_73 rfl rfl ?_
      refine wk_iload (i := 5) (q := 77) dX2_isNextRow_75 rfl rfl ?_
      refine wk_icmp_ge (t := 97) (q := 80) dX2_isNextRow_77 rfl rfl (by omega) (by omega) (fun hc77 => ?_) (fun hc77 => ?_)
      · refine wk_iconst (q := 98) dX2_isNextRow_97 rfl ?_
        refine wk_zret dX2_isNextRow_98 rfl (by omega) ⟨Nat.le_refl _, Nat.le_refl _⟩ rfl ?_
        exact ⟨_, _, _, _, rfl, rfl, rfl, rfl, f1, Or.inr ⟨hi, rfl, fun s s0 s1 => (f2 s s0 s1).trans (f3 s s0 s1)⟩⟩
      · omega
    | succ k ih =>
      intro h A B I1 q1 q2 q3 f1 f2 f3
      by_cases c : A < B
      · have f3' : ∀ s : Int, 0 ≤ s → s < N → rvF k (exF h A B) (A + 1) (B - 1) s = nxF f N s := fun s s0 s1 => by
          have := f3 s s0 s1
          unfold rvF at this
          rw [if_pos c] at this
          exact this
        refine wk_iload (i := 4) (q := 75) dX2_isNextRow_73 rfl rfl ?_
        refine wk_iload (i := 5) (q := 77) dX2_isNextRow_75 rfl rfl ?_
        refine wk_icmp_ge (t := 97) (q := 80) dX2_isNextRow_77 rfl rfl (by omega) (by omega) (fun hc77 => ?_) (fun hc77 => ?_)
        · omega
        · refine wk_aload_n (i := 0) (q := 81) dX2_isNextRow_80 rfl rfl rfl ?_
          refine wk_iload (i := 4) (q := 83) dX2_isNextRow_81 rfl rfl ?_
          refine wk_iload (i := 5) (q := 85) dX2_isNextRow_83 rfl rfl ?_
          refine wk_sV3 (q := 88) dX2_isNextRow_85 rfl sl_X2_66 (ct_X2_exchange ha (by omega) (by omega)) (qRo_m ok_X2_exchange (by decide) (Nat.le_refl _) (Nat.le_refl _)) (Nat.le_of_ble_eq_true rfl) (fun I85 L85 R85 hv85 => ?_)
          obtain ⟨rfl, rfl, g1, g2⟩ := hv85
          refine wk_iinc (lo' := [(0, _), (4, _), (5, _)]) (q := 91) dX2_isNextRow_88 rfl rfl (by decide) rfl ?_
          refine wk_iinc (lo' := [(0, _), (4, _), (5, _)]) (q := 94) dX2_isNextRow_91 rfl rfl (by decide) rfl ?_
          refine wk_goto (t := 73) dX2_isNextRow_94 rfl ?_
          rw [show (B : Int) + -1 = ((B - 1 : Nat) : Int) by omega]
          exact ih (exF h A B) (A + 1) (B - 1) _ (by omega) (by omega) (by omega) (fun b s q => (g1 b s q).trans (f1 b s q)) (fun s s0 s1 => by
            rw [g2]
            unfold exF
            rw [f2 _ (by omega) (by omega), f2 _ (by omega) (by omega), f2 s s0 s1]) f3'
      · have f3' : ∀ s : Int, 0 ≤ s → s < N → h s = nxF f N s := fun s s0 s1 => by
          have := f3 s s0 s1
          unfold rvF at this
          rw [if_neg c] at this
          exact this
        refine wk_iload (i := 4) (q := 75) dX2_isNextRow_73 rfl rfl ?_
        refine wk_iload (i := 5) (q := 77) dX2_isNextRow_75 rfl rfl ?_
        refine wk_icmp_ge (t := 97) (q := 80) dX2_isNextRow_77 rfl rfl (by omega) (by omega) (fun hc77 => ?_) (fun hc77 => ?_)
        · refine wk_iconst (q := 98) dX2_isNextRow_97 rfl ?_
          refine wk_zret dX2_isNextRow_98 rfl (by omega) ⟨Nat.le_refl _, Nat.le_refl _⟩ rfl ?_
          exact ⟨_, _, _, _, rfl, rfl, rfl, rfl, f1, Or.inr ⟨hi, rfl, fun s s0 s1 => (f2 s s0 s1).trans (f3' s s0 s1)⟩⟩
        · omega
  have loop2 : ∀ i : Nat, i + 2 ≤ N → nxi f (N - 2) = i → i ≠ 0 → ∀ d : Nat, d ≤ N - 2 - i → nxj f i d = nxj f i (N - 2 - i) → Wk l E (qmo E 1 n 0 0 (qZ n sh (fun v I' L' R' => L' = L ∧ R' = R ∧ (∀ b s, b ≠ a → I' b s = I b s) ∧ ((nxi f (N - 2) = 0 ∧ v = 0) ∨ (nxi f (N - 2) ≠ 0 ∧ v = 1 ∧ ∀ s : Int, 0 ≤ s → s < N → I' a s = nxF f N s))))) mX2_isNextRow 0 0 35
      [(0, .ref a), (1, .int (zI (N : Int))), (2, .int (zI (i : Int))), (3, .int (zI ((i + 1 + d : Nat) : Int)))] [] (n, sh, I, L, R) := by
    intro i hi hni hi0
    have at57 : ∀ j : Nat, i + 1 ≤ j → j < N → nxj f i (N - 2 - i) = j → Wk l E (qmo E 1 n 0 0 (qZ n sh (fun v I' L' R' => L' = L ∧ R' = R ∧ (∀ b s, b ≠ a → I' b s = I b s) ∧ ((nxi f (N - 2) = 0 ∧ v = 0) ∨ (nxi f (N - 2) ≠ 0 ∧ v = 1 ∧ ∀ s : Int, 0 ≤ s → s < N → I' a s = nxF f N s))))) mX2_isNextRow 0 0 57
        [(0, .ref a), (1, .int (zI (N : Int))), (2, .int (zI (i : Int))), (3, .int (zI (j : Int)))] [] (n, sh, I, L, R) := by
      intro j j0 j1 hj
      refine wk_aload_n (i := 0) (q := 58) dX2_isNextRow_57 rfl rfl rfl ?_
      refine wk_iload_n (i := 2) (q := 59) dX2_isNextRow_58 rfl rfl rfl ?_
      refine wk_iload_n (i := 3) (q := 60) dX2_isNextRow_59 rfl rfl rfl ?_
      refine wk_sV3 (q := 63) dX2_isNextRow_60 rfl sl_X2_66 (ct_X2_exchange ha (by omega) (by omega)) (qRo_m ok_X2_exchange (by decide) (Nat.le_refl _) (Nat.le_refl _)) (Nat.le_of_ble_eq_true rfl) (fun I60 L60 R60 hv60 => ?_)
      obtain ⟨rfl, rfl, g1, g2⟩ := hv60
      refine wk_iload_n (i := 2) (q := 64) dX2_isNextRow_63 rfl rfl rfl ?_
      refine wk_iconst (q := 65) dX2_isNextRow_64 rfl ?_
      refine wk_iadd (q := 66) dX2_isNextRow_65 rfl ?_
      refine wk_istore (i := 4) (lo' := [(0, _), (1, _), (2, _), (3, _), (4, _)]) (q := 68) dX2_isNextRow_66 rfl (by decide) rfl ?_
      refine wk_iload_n (i := 1) (q := 69) dX2_isNextRow_68 rfl rfl rfl ?_
      refine wk_iconst (q := 70) dX2_isNextRow_69 rfl ?_
      refine wk_isub (q := 71) dX2_isNextRow_70 rfl ?_
      refine wk_istore (i := 5) (lo' := [(0, _), (1, _), (2, _), (3, _), (4, _), (5, _)]) (q := 73) dX2_isNextRow_71 rfl (by decide) rfl ?_
      refine wk_del (i := 3) (lo' := [(0, _), (1, _), (2, _), (4, _), (5, _)]) rfl ?_
      refine wk_del (i := 2) (lo' := [(0, _), (1, _), (4, _), (5, _)]) rfl ?_
      refine wk_del (i := 1) (lo' := [(0, _), (4, _), (5, _)]) rfl ?_
      rw [show (N : Int) - 1 = ((N - 1 : Nat) : Int) by omega]
      exact loop3 (by omega) 7 (exF f i j) (i + 1) (N - 1) _ (by omega) (by omega) (by omega) g1 (fun s s0 s1 => by
        rw [g2]
        unfold exF
        rw [hf _ (by omega) (by omega), hf _ (by omega) (by omega), hf s s0 s1]) (fun s s0 s1 => by
        unfold nxF
        rw [hni, hj])
    intro d
    induction d with
    | zero =>
      intro hd hnj
      refine wk_iload_n (i := 3) (q := 36) dX2_isNextRow_35 rfl rfl rfl ?_
      refine wk_iload_n (i := 2) (q := 37) dX2_isNextRow_36 rfl rfl rfl ?_
      refine wk_iconst (q := 38) dX2_isNextRow_37 rfl ?_
      refine wk_iadd (q := 39) dX2_isNextRow_38 rfl ?_
      refine wk_icmp_le (t := 57) (q := 42) dX2_isNextRow_39 rfl rfl (by omega) (by omega) (fun hc39 => ?_) (fun hc39 => ?_)
      · exact at57 (i + 1 + 0) (by omega) (by omega) hnj.symm
      · omega
    | succ d ih =>
      intro hd hnj
      have e1 := hf ((i + 1 + (d + 1) : Nat) : Int) (by omega) (by omega)
      have e2 := hf (i : Int) (by omega) (by omega)
      have b1 := hb ((i + 1 + (d + 1) : Nat) : Int) (by omega) (by omega)
      have b2 := hb (i : Int) (by omega) (by omega)
      have u : nxj f i (d + 1) = if f ((i + 1 + (d + 1) : Nat) : Int) < f (i : Int) then nxj f i d else i + 1 + (d + 1) := rfl
      refine wk_iload_n (i := 3) (q := 36) dX2_isNextRow_35 rfl rfl rfl ?_
      refine wk_iload_n (i := 2) (q := 37) dX2_isNextRow_36 rfl rfl rfl ?_
      refine wk_iconst (q := 38) dX2_isNextRow_37 rfl ?_
      refine wk_iadd (q := 39) dX2_isNextRow_38 rfl ?_
      refine wk_icmp_le (t := 57) (q := 42) dX2_isNextRow_39 rfl rfl (by omega) (by omega) (fun hc39 => ?_) (fun hc39 => ?_)
      · first
        | omega
        | exact at57 (i + 1 + (d + 1)) (by omega) (by omega) (by rw [← hnj, u, if_neg (by omega)])
      · refine wk_aload_n (i := 0) (q := 43) dX2_isNextRow_42 rfl rfl rfl ?_
        refine wk_iload_n (i := 3) (q := 44) dX2_isNextRow_43 rfl rfl rfl ?_
        refine wk_iald (q := 45) dX2_isNextRow_44 rfl ha (by omega) ?_
        refine wk_aload_n (i := 0) (q := 46) dX2_isNextRow_45 rfl rfl rfl ?_
        refine wk_iload_n (i := 2) (q := 47) dX2_isNextRow_46 rfl rfl rfl ?_
        refine wk_iald (q := 48) dX2_isNextRow_47 rfl ha (by omega) ?_
        refine wk_icmp_ge (t := 57) (q := 51) dX2_isNextRow_48 rfl rfl (by omega) (by omega) (fun hc48 => ?_) (fun hc48 => ?_)
        · first
          | omega
          | exact at57 (i + 1 + (d + 1)) (by omega) (by omega) (by rw [← hnj, u, if_neg (by omega)])
        · refine wk_iinc (lo' := [(0, _), (1, _), (2, _), (3, _)]) (q := 54) dX2_isNextRow_51 rfl rfl (by decide) rfl ?_
          refine wk_goto (t := 35) dX2_isNextRow_54 rfl ?_
          rw [show ((i + 1 + (d + 1) : Nat) : Int) + -1 = ((i + 1 + d : Nat) : Int) by omega]
          exact ih (by omega) (by rw [← hnj, u, if_pos (by omega)])
  have at25 : ∀ i : Nat, i + 2 ≤ N → nxi f (N - 2) = i → Wk l E (qmo E 1 n 0 0 (qZ n sh (fun v I' L' R' => L' = L ∧ R' = R ∧ (∀ b s, b ≠ a → I' b s = I b s) ∧ ((nxi f (N - 2) = 0 ∧ v = 0) ∨ (nxi f (N - 2) ≠ 0 ∧ v = 1 ∧ ∀ s : Int, 0 ≤ s → s < N → I' a s = nxF f N s))))) mX2_isNextRow 0 0 25
      [(0, .ref a), (1, .int (zI (N : Int))), (2, .int (zI (i : Int)))] [] (n, sh, I, L, R) := by
    intro i hi hni
    refine wk_iload_n (i := 2) (q := 26) dX2_isNextRow_25 rfl rfl rfl ?_
    refine wk_if_gt (t := 31) (q := 29) dX2_isNextRow_26 rfl rfl (by omega) (fun hc26 => ?_) (fun hc26 => ?_)
    · refine wk_iload_n (i := 1) (q := 32) dX2_isNextRow_31 rfl rfl rfl ?_
      refine wk_iconst (q := 33) dX2_isNextRow_32 rfl ?_
      refine wk_isub (q := 34) dX2_isNextRow_33 rfl ?_
      refine wk_istore_n (i := 3) (lo' := [(0, _), (1, _), (2, _), (3, _)]) (q := 35) dX2_isNextRow_34 rfl rfl (by decide) rfl ?_
      rw [show (N : Int) - 1 = ((i + 1 + (N - 2 - i) : Nat) : Int) by omega]
      exact loop2 i hi hni (by omega) (N - 2 - i) (Nat.le_refl _) rfl
    · refine wk_iconst (q := 30) dX2_isNextRow_29 rfl ?_
      refine wk_zret dX2_isNextRow_30 rfl (by omega) ⟨Nat.le_refl _, Nat.le_refl _⟩ rfl ?_
      exact ⟨_, _, _, _, rfl, rfl, rfl, rfl, fun _ _ _ => rfl, Or.inl ⟨by omega, rfl⟩⟩
  have loop1 : ∀ i : Nat, i + 2 ≤ N → nxi f i = nxi f (N - 2) → Wk l E (qmo E 1 n 0 0 (qZ n sh (fun v I' L' R' => L' = L ∧ R' = R ∧ (∀ b s, b ≠ a → I' b s = I b s) ∧ ((nxi f (N - 2) = 0 ∧ v = 0) ∨ (nxi f (N - 2) ≠ 0 ∧ v = 1 ∧ ∀ s : Int, 0 ≤ s → s < N → I' a s = nxF f N s))))) mX2_isNextRow 0 0 4
      [(0, .ref a), (1, .int (zI (N : Int))), (2, .int (zI (i : Int)))] [] (n, sh, I, L, R) := by
    intro i
    induction i with
    | zero =>
      intro hi hni
      refine wk_iload_n (i := 2) (q := 5) dX2_isNextRow_4 rfl rfl rfl ?_
      refine wk_if_le (t := 25) (q := 8) dX2_isNextRow_5 rfl rfl (by omega) (fun hc5 => ?_) (fun hc5 => ?_)
      · exact at25 0 hi hni.symm
      · omega
    | succ i ih =>
      intro hi hni
      have e1 := hf ((i : Int) + 1) (by omega) (by omega)
      have e2 := hf ((i : Int) + 1 + 1) (by omega) (by omega)
      have b1 := hb ((i : Int) + 1) (by omega) (by omega)
      have b2 := hb ((i : Int) + 1 + 1) (by omega) (by omega)
      have u : nxi f (i + 1) = if f ((i : Int) + 1) > f ((i : Int) + 1 + 1) then nxi f i else i + 1 := rfl
      rw [show ((i + 1 : Nat) : Int) = (i : Int) + 1 from rfl]
      refine wk_iload_n (i := 2) (q := 5) dX2_isNextRow_4 rfl rfl rfl ?_
      refine wk_if_le (t := 25) (q := 8) dX2_isNextRow_5 rfl rfl (by omega) (fun hc5 => ?_) (fun hc5 => ?_)
      · first
        | omega
        | exact at25 (i + 1) hi (by rw [← hni, u, if_neg (by omega)])
      · refine wk_aload_n (i := 0) (q := 9) dX2_isNextRow_8 rfl rfl rfl ?_
        refine wk_iload_n (i := 2) (q := 10) dX2_isNextRow_9 rfl rfl rfl ?_
        refine wk_iald (q := 11) dX2_isNextRow_10 rfl ha (by omega) ?_
        refine wk_aload_n (i := 0) (q := 12) dX2_isNextRow_11 rfl rfl rfl ?_
        refine wk_iload_n (i := 2) (q := 13) dX2_isNextRow_12 rfl rfl rfl ?_
        refine wk_iconst (q := 14) dX2_isNextRow_13 rfl ?_
        refine wk_iadd (q := 15) dX2_isNextRow_14 rfl ?_
        refine wk_iald (q := 16) dX2_isNextRow_15 rfl ha (by omega) ?_
        refine wk_icmp_le (t := 25) (q := 19) dX2_isNextRow_16 rfl rfl (by omega) (by omega) (fun hc16 => ?_) (fun hc16 => ?_)
        · first
          | omega
          | exact at25 (i + 1) hi (by rw [← hni, u, if_neg (by omega)])
        · refine wk_iinc (lo' := [(0, _), (1, _), (2, _)]) (q := 22) dX2_isNextRow_19 rfl rfl (by decide) rfl ?_
          refine wk_goto (t := 4) dX2_isNextRow_22 rfl ?_
          rw [show (i : Int) + 1 + -1 = (i : Int) by omega]
          exact ih (by omega) (by rw [← hni, u, if_pos (by omega)])
  refine Ct.of (lo := [(0, _), (1, _)]) ok_X2_isNextRow (Nat.le_of_ble_eq_true rfl) rfl ?_
  refine wk_iload_n (i := 1) (q := 1) dX2_isNextRow_0 rfl rfl rfl ?_
  refine wk_iconst (q := 2) dX2_isNextRow_1 rfl ?_
  refine wk_isub (q := 3) dX2_isNextRow_2 rfl ?_
  refine wk_istore_n (i := 2) (lo' := [(0, _), (1, _), (2, _)]) (q := 4) dX2_isNextRow_3 rfl rfl (by decide) rfl ?_
  rw [show (N : Int) - 2 = ((N - 2 : Nat) : Int) by omega]
  exact loop1 (N - 2) (by omega) rfl
theorem ct_X2_weigh {q a : Nat} {aim v : Int} (hQ : qSeat E.2.2 n sh R q) (ha : isC E.2.2 n sh a 0 7) (hd : a < q) (hm : 0 ≤ aim ∧ aim < 2) (hv : in32 v) (hb : in32 (I (q + 1) aim)) :
    Ct l E 1 mX2_weigh [.ref q, .int (zI aim), .int (zI v), .ref a] (n, sh, I, L, R) 0 0 (qV n sh (fun I' L' R' => L' = L ∧ R' = R ∧ I' = if I (q + 1) aim < v then cpI (up I (q + 1) aim v) a (q + 3 + aim.toNat) 0 0 7 else I)) := by
  refine Ct.of (lo := [(0, _), (1, _), (2, _), (3, _)]) ok_X2_weigh (Nat.le_of_ble_eq_true rfl) rfl ?_
  refine wk_iload_n (i := 2) (q := 1) dX2_weigh_0 rfl rfl rfl ?_
  refine wk_aload_n (i := 0) (q := 2) dX2_weigh_1 rfl rfl rfl ?_
  refine wk_getR (fi := 1) (q := 5) dX2_weigh_2 rfl fl_X2_11 rfl rfl hQ.ob hQ.r1 ?_
  refine wk_iload_n (i := 1) (q := 6) dX2_weigh_5 rfl rfl rfl ?_
  refine wk_iald (q := 7) dX2_weigh_6 rfl hQ.s1 (by omega) ?_
  refine wk_icmp_le (t := 31) (q := 10) dX2_weigh_7 rfl rfl (by omega) (by omega) (fun hc7 => ?_) (fun hc7 => ?_)
  · refine wk_ret dX2_weigh_31 rfl ⟨Nat.le_refl _, Nat.le_refl _⟩ rfl ?_
    refine ⟨_, _, _, rfl, rfl, rfl, rfl, ?_⟩
    first
      | rw [if_pos (by omega)]
      | rw [if_neg (by omega)]
  · refine wk_aload_n (i := 0) (q := 11) dX2_weigh_10 rfl rfl rfl ?_
    refine wk_getR (fi := 1) (q := 14) dX2_weigh_11 rfl fl_X2_11 rfl rfl hQ.ob hQ.r1 ?_
    refine wk_iload_n (i := 1) (q := 15) dX2_weigh_14 rfl rfl rfl ?_
    refine wk_iload_n (i := 2) (q := 16) dX2_weigh_15 rfl rfl rfl ?_
    refine wk_iast (q := 17) dX2_weigh_16 rfl hQ.s1 (by omega) ?_
    refine wk_aload_n (i := 3) (q := 18) dX2_weigh_17 rfl rfl rfl ?_
    refine wk_iconst (q := 19) dX2_weigh_18 rfl ?_
    refine wk_aload_n (i := 0) (q := 20) dX2_weigh_19 rfl rfl rfl ?_
    refine wk_getR (fi := 2) (q := 23) dX2_weigh_20 rfl fl_X2_17 rfl rfl hQ.ob hQ.r2 ?_
    refine wk_iload_n (i := 1) (q := 24) dX2_weigh_23 rfl rfl rfl ?_
    refine wk_aald2 (q := 25) dX2_weigh_24 rfl hQ.s2 (by omega) (hQ.w2 (by omega)) ?_
    refine wk_iconst (q := 26) dX2_weigh_25 rfl ?_
    refine wk_bipush (q := 28) dX2_weigh_26 rfl (by decide +kernel) ?_
    refine wk_copy (q := 31) dX2_weigh_28 rfl w_ac_2 ha (hQ.v2 (by omega)) (by omega) (by omega) (by omega) (Nat.le_of_ble_eq_true rfl) (Nat.le_of_ble_eq_true rfl) ?_
    refine wk_ret dX2_weigh_31 rfl ⟨Nat.le_refl _, Nat.le_refl _⟩ rfl ?_
    refine ⟨_, _, _, rfl, rfl, rfl, rfl, ?_⟩
    first
      | rw [if_pos (by omega)]
      | rw [if_neg (by omega)]
end SEATS2
