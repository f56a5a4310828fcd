/-! the class's small methods; what stays of its state -/
theorem shT.cg {I I' : qI} {o : Nat} {T : TT} (h : shT I o T) (hn : T.ng ≤ 7) (hf : ∀ b i, o ≤ b → b < o + 14 → I' b i = I b i) : shT I' o T := by
  refine ⟨by rw [hf _ _ (by omega) (by omega)]; exact h.1, by rw [hf _ _ (by omega) (by omega)]; exact h.2.1, fun d h0 h1 => ?_, fun g h0 h1 => ?_⟩
  · rw [hf _ _ (by omega) (by omega), hf _ _ (by omega) (by omega)]
    exact h.2.2.1 d h0 h1
  · rw [hf _ _ (by omega) (by omega), hf _ _ (by omega) (by omega), hf _ _ (by omega) (by omega)]
    obtain ⟨a1, a2, a3, a4⟩ := h.2.2.2 g h0 h1
    exact ⟨a1, a2, a3, fun d d0 d1 => by rw [hf _ _ (by omega) (by omega)]; exact a4 d d0 d1⟩
theorem shC.cg {I I' : qI} {t : Nat} {T : TT} {C : CC} (h : shC I t T C) (hn : T.ng ≤ 7) (hf : ∀ b i, (b = t ∧ 5 ≤ i ∧ i ≤ 7) ∨ b = t + 15 ∨ b = t + 16 ∨ (t + 19 ≤ b ∧ b < t + 26) → I' b i = I b i) : shC I' t T C := by
  obtain ⟨h1, h2, h3, h4, h5⟩ := h
  refine ⟨by rw [hf _ _ (by omega)]; exact h1, by rw [hf _ _ (by omega)]; exact h2, by rw [hf _ _ (by omega)]; exact h3, fun s s0 s1 => by rw [hf _ _ (by omega)]; exact h4 s s0 s1, fun g g0 g1 => ?_⟩
  rw [hf _ _ (by omega)]
  obtain ⟨a1, a2⟩ := h5 g g0 g1
  exact ⟨a1, fun d d0 d1 => by rw [hf _ _ (by omega)]; exact a2 d d0 d1⟩
theorem VV.ok.ng {V : VV} (h : V.ok) : 0 ≤ V.T.ng ∧ V.T.ng ≤ 7 ∧ 0 ≤ V.T.nd ∧ V.T.nd ≤ 6 := by
  rcases h.2 with h | h
  · omega
  · have := h.1.1
    have := h.1.2.1
    have := h.1.2.2.1
    have := h.1.2.2.2.1
    omega
theorem VV.ok.tab {V : VV} (h : V.ok) (hp : 0 < V.T.ng) : V.T.ok ∧ V.C.now V.T ∧ LA2 V.T V.la := by
  rcases h.2 with h | h
  · omega
  · exact h
/-- the state behind a change, where told, the tables, sheets, caches are as they ought -/
theorem CI0.gen {b n : Nat} {sh : qSh} {x : Nat} {I L I' L' : qI} {R R' : qR} {V V' : VV} {o d u1 u2 u3 u2' u3' : Nat} (h : CI0 b n sh x I L R V o d u1 u2 u3) (hR : qRA b n sh R' x o d u1 u2' u3') (hT : V'.T = V.T) (hok : V'.ok) (hI : ∀ b i, x + 2 ≤ b → b < x + 30 → I' b i = I b i)
    (e10 : I' x 10 = V'.ni) (e11 : I' x 11 = V'.tr) (e12 : I' x 12 = V'.fa) (hS : shSh I' x V') (hN : V.T.ng = 0 → I' (x + 30) 6 = 0 ∧ I' (x + 30) 7 = 0) (hN2 : 0 < V.T.ng → shC I' (x + 30) V'.T V'.C ∧ I' (x + 30) 8 = -1 ∧ ∀ g, 0 ≤ g → g < V'.T.ng → I' (x + 30 + 17) g = V'.la g) (hB : caB I' L' x V'.T V'.C) (hC : caS I' x V'.T V'.C) : CI0 b n sh x I' L' R' V' o d u1 u2' u3' := by
  obtain ⟨hX, hod, hok0, h10, h11, h12, hS0, ⟨hT1, hT2⟩, hB0, hSe⟩ := h
  have hng := hok0.ng
  refine ⟨hR, hod, hok, e10, e11, e12, hS, ⟨?_, ?_⟩, hB, hC⟩
  · rw [hT]
    exact hT1.cg hng.2.1 (fun b i q1 q2 => hI b i (by omega) (by omega))
  · rcases hT2 with q | ⟨q1, q2, -⟩
    · left
      obtain ⟨a1, a2⟩ := hN q.1
      exact ⟨by rw [hT]; exact q.1, a1, a2⟩
    · right
      exact ⟨by rw [hT]; exact q1, q2, hN2 q1⟩
theorem shSh.cg {I I' : qI} {x : Nat} {V V' : VV} (h : shSh I x V) (hV : V'.th = V.th ∧ V'.so = V.so ∧ V'.sl = V.sl ∧ V'.ce = V.ce) (hI : ∀ b i, x + 159 ≤ b → b < x + 167 → I' b i = I b i) : shSh I' x V' := by
  intro k k0 k1
  obtain ⟨a1, a2, a3, a4⟩ := h k k0 k1
  rw [hV.1, hV.2.1, hV.2.2.1, hV.2.2.2]
  refine ⟨by rw [hI _ _ (by omega) (by omega)]; exact a1, by rw [hI _ _ (by omega) (by omega)]; exact a2, by rw [hI _ _ (by omega) (by omega)]; exact a3, fun i i0 i1 => by rw [hI _ _ (by omega) (by omega)]; exact a4 i i0 i1⟩
theorem VV.shok.cg {V V' : VV} (h : V.shok) (hV : V'.th = V.th ∧ V'.so = V.so ∧ V'.sl = V.sl ∧ V'.ce = V.ce) : V'.shok := by
  intro k k0 k1
  rw [hV.1, hV.2.1, hV.2.2.1, hV.2.2.2]
  exact h k k0 k1
/-- behind what writes fields of the object, and what it tries on -/
theorem CI0.scr {b n : Nat} {sh : qSh} {x : Nat} {I L I' : qI} {R R' : qR} {V V' : VV} {o d u1 u2 u3 u2' u3' : Nat} (h : CI0 b n sh x I L R V o d u1 u2 u3) (hR : qRA b n sh R' x o d u1 u2' u3') (hV : V'.T = V.T ∧ V'.C = V.C ∧ V'.la = V.la ∧ V'.th = V.th ∧ V'.so = V.so ∧ V'.sl = V.sl ∧ V'.ce = V.ce) (hI : ∀ b i, b ≠ x → ¬ (x + 68 ≤ b ∧ b < x + 150) → I' b i = I b i)
    (e10 : I' x 10 = V'.ni) (e11 : I' x 11 = V'.tr) (e12 : I' x 12 = V'.fa) : CI0 b n sh x I' L R' V' o d u1 u2' u3' := by
  obtain ⟨v1, v2, v3, v4⟩ := hV
  have hok := h.2.2.1
  have hng := hok.ng
  have hok' : V'.ok := ⟨VV.shok.cg hok.1 v4, by rw [v1, v2, v3]; exact hok.2⟩
  have hT2 := h.2.2.2.2.2.2.2.1.2
  refine h.gen hR v1 hok' (fun b i q1 q2 => hI b i (by omega) (by omega)) e10 e11 e12 (h.2.2.2.2.2.2.1.cg v4 (fun b i q1 q2 => hI b i (by omega) (by omega))) (fun q => ?_) (fun q => ?_) ?_ ?_
  · rcases hT2 with z | z
    · rw [hI _ _ (by omega) (by omega), hI _ _ (by omega) (by omega)]
      exact z.2
    · omega
  · rcases hT2 with z | ⟨z1, z2, z3, z4, z5⟩
    · omega
    · rw [v1, v2, v3]
      exact ⟨z3.cg hng.2.1 (fun b i q => hI b i (by omega) (by omega)), by rw [hI _ _ (by omega) (by omega)]; exact z4, fun g g0 g1 => by rw [hI _ _ (by omega) (by omega)]; exact z5 g g0 g1⟩
  · have := h.2.2.2.2.2.2.2.2.1
    rw [v1, v2]
    unfold caB at this ⊢
    rw [hI _ _ (by omega) (by omega)]
    exact this
  · have := h.2.2.2.2.2.2.2.2.2
    rw [v1, v2]
    unfold caS at this ⊢
    rw [hI _ _ (by omega) (by omega)]
    rcases this with z | ⟨z1, z2, z3⟩
    · exact Or.inl z
    · exact Or.inr ⟨z1, z2, fun aim a0 a1 => ⟨by rw [hI _ _ (by omega) (by omega)]; exact (z3 aim a0 a1).1, fun s s0 s1 => by rw [hI _ _ (by omega) (by omega)]; exact (z3 aim a0 a1).2 s s0 s1⟩⟩
/-- behind what writes fields of the object alone -/
theorem CI0.fld {b n : Nat} {sh : qSh} {x : Nat} {I L : qI} {R : qR} {V : VV} {o d u1 u2 u3 : Nat} (h : CI0 b n sh x I L R V o d u1 u2 u3) {V' : VV} {I' : qI} (hV : V'.T = V.T ∧ V'.C = V.C ∧ V'.la = V.la ∧ V'.th = V.th ∧ V'.so = V.so ∧ V'.sl = V.sl ∧ V'.ce = V.ce) (hI : ∀ b i, b ≠ x → I' b i = I b i) (e10 : I' x 10 = V'.ni) (e11 : I' x 11 = V'.tr) (e12 : I' x 12 = V'.fa) : CI0 b n sh x I' L R V' o d u1 u2 u3 :=
  h.scr h.1 hV (fun b i q _ => hI b i q) e10 e11 e12
theorem CI0.fault {b n : Nat} {sh : qSh} {x : Nat} {I L : qI} {R : qR} {V : VV} {o d u1 u2 u3 : Nat} (h : CI0 b n sh x I L R V o d u1 u2 u3) (z : Int) : CI0 b n sh x (up I x 12 z) L R (V.setFa z) o d u1 u2 u3 :=
  h.fld ⟨rfl, rfl, rfl, rfl, rfl, rfl, rfl⟩ (fun b i q => up_na _ _ _ _ q) (by rw [up_ni _ _ (by omega)]; exact h.2.2.2.1) (by rw [up_ni _ _ (by omega)]; exact h.2.2.2.2.1) (up_eq _ _ _ _)
theorem frO_up {I : qI} {a w b : Nat} (i v : Int) (h : a ≤ b ∧ b < a + w) : frO I (up I b i v) a w := fun c j q => up_na _ _ _ _ (by omega)
/-- an answer, and the class's state behind it -/
def cpZ (b n : Nat) (sh : qSh) (x : Nat) (I : qI) (R : qR) (r : Int) (V' : VV) : Int → qI → qI → qR → Prop := fun v I' L' R' => v = r ∧ CI b n sh x I' L' R' V' ∧ frO I I' x 167 ∧ frO R R' x 167
theorem CI0.ci {b n : Nat} {sh : qSh} {x : Nat} {I L : qI} {R : qR} {V : VV} {o d u1 u2 u3 : Nat} (h : CI0 b n sh x I L R V o d u1 u2 u3) : CI b n sh x I L R V := ⟨o, d, u1, u2, u3, h⟩
section CLS1
variable {l : Launch} {E : qEv} {n : Nat} {sh : qSh} {I L : qI} {R : qR}
theorem ct_X6_isDish {x o d u1 u2 u3 : Nat} {g : Int} (hX : qRA E.2.2 n sh R x o d u1 u2 u3) (hg : in32 g) (hn : in32 (I o 6)) :
    Ct l E 0 mX6_isDish [.ref x, .int (zI g)] (n, sh, I, L, R) 0 0 (qP n sh I L R (qBo (0 ≤ g ∧ g < I o 6))) := by
  refine Ct.of (lo := [(0, _), (1, _)]) ok_X6_isDish (Nat.le_of_ble_eq_true rfl) rfl ?_
  refine wk_iload_n (i := 1) (q := 1) dX6_isDish_0 rfl rfl rfl ?_
  refine wk_if_lt (t := 19) (q := 4) dX6_isDish_1 rfl rfl (by omega) (fun hc1 => ?_) (fun hc1 => ?_)
  · refine wk_iconst (q := 20) dX6_isDish_19 rfl ?_
    refine wk_zret dX6_isDish_20 rfl (by omega) ⟨Nat.le_refl _, Nat.le_refl _⟩ rfl ?_
    refine ⟨_, _, _, _, rfl, rfl, rfl, rfl, rfl, ?_⟩
    unfold qBo
    omega
  · refine wk_iload_n (i := 1) (q := 5) dX6_isDish_4 rfl rfl rfl ?_
    refine wk_aload_n (i := 0) (q := 6) dX6_isDish_5 rfl rfl rfl ?_
    refine wk_getR (fi := 1) (q := 9) dX6_isDish_6 rfl fl_X6_20 rfl rfl hX.ob hX.r1 ?_
    refine wk_getI (fi := 6) (q := 12) dX6_isDish_9 rfl fl_X6_235 rfl rfl hX.o1.ob ?_
    refine wk_icmp_ge (t := 19) (q := 15) dX6_isDish_12 rfl rfl (by omega) (by omega) (fun hc12 => ?_) (fun hc12 => ?_)
    · refine wk_iconst (q := 20) dX6_isDish_19 rfl ?_
      refine wk_zret dX6_isDish_20 rfl (by omega) ⟨Nat.le_refl _, Nat.le_refl _⟩ rfl ?_
      refine ⟨_, _, _, _, rfl, rfl, rfl, rfl, rfl, ?_⟩
      unfold qBo
      omega
    · refine wk_iconst (q := 16) dX6_isDish_15 rfl ?_
      refine wk_goto (t := 20) dX6_isDish_16 rfl ?_
      refine wk_zret dX6_isDish_20 rfl (by omega) ⟨Nat.le_refl _, Nat.le_refl _⟩ rfl ?_
      refine ⟨_, _, _, _, rfl, rfl, rfl, rfl, rfl, ?_⟩
      unfold qBo
      omega
theorem ct_X6_isSheet {k : Int} (hk : in32 k) : Ct l E 0 mX6_isSheet [.int (zI k)] (n, sh, I, L, R) 0 0 (qP n sh I L R (qBo (0 ≤ k ∧ k < 4))) := by
  refine Ct.of (lo := [(0, _)]) ok_X6_isSheet (Nat.le_of_ble_eq_true rfl) rfl ?_
  refine wk_iload_n (i := 0) (q := 1) dX6_isSheet_0 rfl rfl rfl ?_
  refine wk_if_lt (t := 13) (q := 4) dX6_isSheet_1 rfl rfl (by omega) (fun hc1 => ?_) (fun hc1 => ?_)
  · refine wk_iconst (q := 14) dX6_isSheet_13 rfl ?_
    refine wk_zret dX6_isSheet_14 rfl (by omega) ⟨Nat.le_refl _, Nat.le_refl _⟩ rfl ?_
    refine ⟨_, _, _, _, rfl, rfl, rfl, rfl, rfl, ?_⟩
    unfold qBo
    omega
  · refine wk_iload_n (i := 0) (q := 5) dX6_isSheet_4 rfl rfl rfl ?_
    refine wk_iconst (q := 6) dX6_isSheet_5 rfl ?_
    refine wk_icmp_ge (t := 13) (q := 9) dX6_isSheet_6 rfl rfl (by omega) (by omega) (fun hc6 => ?_) (fun hc6 => ?_)
    · refine wk_iconst (q := 14) dX6_isSheet_13 rfl ?_
      refine wk_zret dX6_isSheet_14 rfl (by omega) ⟨Nat.le_refl _, Nat.le_refl _⟩ rfl ?_
      refine ⟨_, _, _, _, rfl, rfl, rfl, rfl, rfl, ?_⟩
      unfold qBo
      omega
    · refine wk_iconst (q := 10) dX6_isSheet_9 rfl ?_
      refine wk_goto (t := 14) dX6_isSheet_10 rfl ?_
      refine wk_zret dX6_isSheet_14 rfl (by omega) ⟨Nat.le_refl _, Nat.le_refl _⟩ rfl ?_
      refine ⟨_, _, _, _, rfl, rfl, rfl, rfl, rfl, ?_⟩
      unfold qBo
      omega
theorem ct_X6_isSort {k : Int} (hk : in32 k) : Ct l E 0 mX6_isSort [.int (zI k)] (n, sh, I, L, R) 0 0 (qP n sh I L R (qBo (0 ≤ k ∧ k ≤ 2))) := by
  refine Ct.of (lo := [(0, _)]) ok_X6_isSort (Nat.le_of_ble_eq_true rfl) rfl ?_
  refine wk_iload_n (i := 0) (q := 1) dX6_isSort_0 rfl rfl rfl ?_
  refine wk_if_lt (t := 13) (q := 4) dX6_isSort_1 rfl rfl (by omega) (fun hc1 => ?_) (fun hc1 => ?_)
  · refine wk_iconst (q := 14) dX6_isSort_13 rfl ?_
    refine wk_zret dX6_isSort_14 rfl (by omega) ⟨Nat.le_refl _, Nat.le_refl _⟩ rfl ?_
    refine ⟨_, _, _, _, rfl, rfl, rfl, rfl, rfl, ?_⟩
    unfold qBo
    omega
  · refine wk_iload_n (i := 0) (q := 5) dX6_isSort_4 rfl rfl rfl ?_
    refine wk_iconst (q := 6) dX6_isSort_5 rfl ?_
    refine wk_icmp_gt (t := 13) (q := 9) dX6_isSort_6 rfl rfl (by omega) (by omega) (fun hc6 => ?_) (fun hc6 => ?_)
    · refine wk_iconst (q := 14) dX6_isSort_13 rfl ?_
      refine wk_zret dX6_isSort_14 rfl (by omega) ⟨Nat.le_refl _, Nat.le_refl _⟩ rfl ?_
      refine ⟨_, _, _, _, rfl, rfl, rfl, rfl, rfl, ?_⟩
      unfold qBo
      omega
    · refine wk_iconst (q := 10) dX6_isSort_9 rfl ?_
      refine wk_goto (t := 14) dX6_isSort_10 rfl ?_
      refine wk_zret dX6_isSort_14 rfl (by omega) ⟨Nat.le_refl _, Nat.le_refl _⟩ rfl ?_
      refine ⟨_, _, _, _, rfl, rfl, rfl, rfl, rfl, ?_⟩
      unfold qBo
      omega
theorem ct_X6_isOneOfTwo {k : Int} (hk : in32 k) : Ct l E 0 mX6_isOneOfTwo [.int (zI k)] (n, sh, I, L, R) 0 0 (qP n sh I L R (qBo (k = 0 ∨ k = 1))) := by
  refine Ct.of (lo := [(0, _)]) ok_X6_isOneOfTwo (Nat.le_of_ble_eq_true rfl) rfl ?_
  refine wk_iload_n (i := 0) (q := 1) dX6_isOneOfTwo_0 rfl rfl rfl ?_
  refine wk_if_eq (t := 9) (q := 4) dX6_isOneOfTwo_1 rfl rfl (by omega) (fun hc1 => ?_) (fun hc1 => ?_)
  · refine wk_iconst (q := 10) dX6_isOneOfTwo_9 rfl ?_
    refine wk_goto (t := 14) dX6_isOneOfTwo_10 rfl ?_
    refine wk_zret dX6_isOneOfTwo_14 rfl (by omega) ⟨Nat.le_refl _, Nat.le_refl _⟩ rfl ?_
    refine ⟨_, _, _, _, rfl, rfl, rfl, rfl, rfl, ?_⟩
    unfold qBo
    omega
  · refine wk_iload_n (i := 0) (q := 5) dX6_isOneOfTwo_4 rfl rfl rfl ?_
    refine wk_iconst (q := 6) dX6_isOneOfTwo_5 rfl ?_
    refine wk_icmp_ne (t := 13) (q := 9) dX6_isOneOfTwo_6 rfl rfl (by omega) (by omega) (fun hc6 => ?_) (fun hc6 => ?_)
    · refine wk_iconst (q := 14) dX6_isOneOfTwo_13 rfl ?_
      refine wk_zret dX6_isOneOfTwo_14 rfl (by omega) ⟨Nat.le_refl _, Nat.le_refl _⟩ rfl ?_
      refine ⟨_, _, _, _, rfl, rfl, rfl, rfl, rfl, ?_⟩
      unfold qBo
      omega
    · refine wk_iconst (q := 10) dX6_isOneOfTwo_9 rfl ?_
      refine wk_goto (t := 14) dX6_isOneOfTwo_10 rfl ?_
      refine wk_zret dX6_isOneOfTwo_14 rfl (by omega) ⟨Nat.le_refl _, Nat.le_refl _⟩ rfl ?_
      refine ⟨_, _, _, _, rfl, rfl, rfl, rfl, rfl, ?_⟩
      unfold qBo
      omega
theorem ct_X6_isTable {x o d u1 u2 u3 : Nat} (hX : qRA E.2.2 n sh R x o d u1 u2 u3) (hn : in32 (I o 7)) :
    Ct l E 0 mX6_isTable [.ref x] (n, sh, I, L, R) 0 0 (qP n sh I L R (qBo (0 < I o 7))) := by
  refine Ct.of (lo := [(0, _)]) ok_X6_isTable (Nat.le_of_ble_eq_true rfl) rfl ?_
  refine wk_aload_n (i := 0) (q := 1) dX6_isTable_0 rfl rfl rfl ?_
  refine wk_getR (fi := 1) (q := 4) dX6_isTable_1 rfl fl_X6_20 rfl rfl hX.ob hX.r1 ?_
  refine wk_getI (fi := 7) (q := 7) dX6_isTable_4 rfl fl_X6_88 rfl rfl hX.o1.ob ?_
  refine wk_if_le (t := 14) (q := 10) dX6_isTable_7 rfl rfl (by omega) (fun hc7 => ?_) (fun hc7 => ?_)
  · refine wk_iconst (q := 15) dX6_isTable_14 rfl ?_
    refine wk_zret dX6_isTable_15 rfl (by omega) ⟨Nat.le_refl _, Nat.le_refl _⟩ rfl ?_
    refine ⟨_, _, _, _, rfl, rfl, rfl, rfl, rfl, ?_⟩
    unfold qBo
    omega
  · refine wk_iconst (q := 11) dX6_isTable_10 rfl ?_
    refine wk_goto (t := 15) dX6_isTable_11 rfl ?_
    refine wk_zret dX6_isTable_15 rfl (by omega) ⟨Nat.le_refl _, Nat.le_refl _⟩ rfl ?_
    refine ⟨_, _, _, _, rfl, rfl, rfl, rfl, rfl, ?_⟩
    unfold qBo
    omega
theorem ct_X6_faulty {x o d u1 u2 u3 : Nat} {k : Int} (hX : qRA E.2.2 n sh R x o d u1 u2 u3) :
    Ct l E 0 mX6_faulty [.ref x, .int (zI k)] (n, sh, I, L, R) 0 0 (qZ n sh (fun v I' L' R' => v = -10 - k ∧ I' = up I x 12 k ∧ L' = L ∧ R' = R)) := by
  refine Ct.of (lo := [(0, _), (1, _)]) ok_X6_faulty (Nat.le_of_ble_eq_true rfl) rfl ?_
  refine wk_aload_n (i := 0) (q := 1) dX6_faulty_0 rfl rfl rfl ?_
  refine wk_iload_n (i := 1) (q := 2) dX6_faulty_1 rfl rfl rfl ?_
  refine wk_putI (fi := 12) (q := 5) dX6_faulty_2 rfl fl_X6_246 fw_6_12 rfl rfl hX.ob ?_
  refine wk_bipush (q := 7) dX6_faulty_5 rfl (by decide +kernel) ?_
  refine wk_iload_n (i := 1) (q := 8) dX6_faulty_7 rfl rfl rfl ?_
  refine wk_isub (q := 9) dX6_faulty_8 rfl ?_
  refine wk_iret dX6_faulty_9 rfl ⟨Nat.le_refl _, Nat.le_refl _⟩ rfl ?_
  exact ⟨_, _, _, _, rfl, rfl, rfl, rfl, rfl, rfl⟩
theorem ct_X3_renew {s : Nat} {so z : Int} (hS : qSheet E.2.2 n sh R s) :
    Ct l E 1 mX3_renew [.ref s, .int (zI so), .int (zI z)] (n, sh, I, L, R) 0 0 (qV n sh (fun I' L' R' => I' = fillI (up (up (up I s 1 1) s 2 so) s 3 z) (s + 1) 100 0 ∧ L' = L ∧ R' = R)) := by
  refine Ct.of (lo := [(0, _), (1, _), (2, _)]) ok_X3_renew (Nat.le_of_ble_eq_true rfl) rfl ?_
  refine wk_aload_n (i := 0) (q := 1) dX3_renew_0 rfl rfl rfl ?_
  refine wk_iconst (q := 2) dX3_renew_1 rfl ?_
  refine wk_putZ (fi := 1) (q := 5) dX3_renew_2 rfl fl_X3_15 fw_3_1 rfl (by omega) rfl hS.ob ?_
  refine wk_aload_n (i := 0) (q := 6) dX3_renew_5 rfl rfl rfl ?_
  refine wk_iload_n (i := 1) (q := 7) dX3_renew_6 rfl rfl rfl ?_
  refine wk_putI (fi := 2) (q := 10) dX3_renew_7 rfl fl_X3_19 fw_3_2 rfl rfl hS.ob ?_
  refine wk_aload_n (i := 0) (q := 11) dX3_renew_10 rfl rfl rfl ?_
  refine wk_iload_n (i := 2) (q := 12) dX3_renew_11 rfl rfl rfl ?_
  refine wk_putI (fi := 3) (q := 15) dX3_renew_12 rfl fl_X3_23 fw_3_3 rfl rfl hS.ob ?_
  refine wk_aload_n (i := 0) (q := 16) dX3_renew_15 rfl rfl rfl ?_
  refine wk_getR (fi := 0) (q := 19) dX3_renew_16 rfl fl_X3_9 rfl rfl hS.ob hS.r0 ?_
  refine wk_iconst (q := 20) dX3_renew_19 rfl ?_
  refine wk_sV2 (q := 23) dX3_renew_20 rfl sl_X3_26 (ct_fillI hS.s0) (qRo_m ok_J7_fill_53178 (by decide) (Nat.le_refl _) (Nat.le_refl _)) (Nat.le_of_ble_eq_true rfl) (fun I20 L20 R20 hv20 => ?_)
  obtain ⟨rfl, rfl, rfl⟩ := hv20
  refine wk_ret dX3_renew_23 rfl ⟨Nat.le_refl _, Nat.le_refl _⟩ rfl ?_
  exact ⟨_, _, _, rfl, rfl, rfl, rfl, rfl⟩
theorem ct_X3_holds {s : Nat} {i z : Int} (hS : qSheet E.2.2 n sh R s) (hi : in32 i) (hz : in32 z) (hl : 0 ≤ I s 3 ∧ I s 3 ≤ 100) :
    Ct l E 0 mX3_holds [.ref s, .int (zI i), .int (zI z)] (n, sh, I, L, R) 0 0 (qP n sh I L R (qBo (0 ≤ i ∧ i ≤ I s 3 ∧ 0 ≤ z ∧ z ≤ I s 3 - i))) := by
  refine Ct.of (lo := [(0, _), (1, _), (2, _)]) ok_X3_holds (Nat.le_of_ble_eq_true rfl) rfl ?_
  refine wk_iload_n (i := 1) (q := 1) dX3_holds_0 rfl rfl rfl ?_
  refine wk_if_lt (t := 30) (q := 4) dX3_holds_1 rfl rfl (by omega) (fun hc1 => ?_) (fun hc1 => ?_)
  · refine wk_iconst (q := 31) dX3_holds_30 rfl ?_
    refine wk_zret dX3_holds_31 rfl (by omega) ⟨Nat.le_refl _, Nat.le_refl _⟩ rfl ?_
    refine ⟨_, _, _, _, rfl, rfl, rfl, rfl, rfl, ?_⟩
    unfold qBo
    omega
  · refine wk_iload_n (i := 1) (q := 5) dX3_holds_4 rfl rfl rfl ?_
    refine wk_aload_n (i := 0) (q := 6) dX3_holds_5 rfl rfl rfl ?_
    refine wk_getI (fi := 3) (q := 9) dX3_holds_6 rfl fl_X3_23 rfl rfl hS.ob ?_
    refine wk_icmp_gt (t := 30) (q := 12) dX3_holds_9 rfl rfl (by omega) (by omega) (fun hc9 => ?_) (fun hc9 => ?_)
    · refine wk_iconst (q := 31) dX3_holds_30 rfl ?_
      refine wk_zret dX3_holds_31 rfl (by omega) ⟨Nat.le_refl _, Nat.le_refl _⟩ rfl ?_
      refine ⟨_, _, _, _, rfl, rfl, rfl, rfl, rfl, ?_⟩
      unfold qBo
      omega
    · refine wk_iload_n (i := 2) (q := 13) dX3_holds_12 rfl rfl rfl ?_
      refine wk_if_lt (t := 30) (q := 16) dX3_holds_13 rfl rfl (by omega) (fun hc13 => ?_) (fun hc13 => ?_)
      · refine wk_iconst (q := 31) dX3_holds_30 rfl ?_
        refine wk_zret dX3_holds_31 rfl (by omega) ⟨Nat.le_refl _, Nat.le_refl _⟩ rfl ?_
        refine ⟨_, _, _, _, rfl, rfl, rfl, rfl, rfl, ?_⟩
        unfold qBo
        omega
      · refine wk_iload_n (i := 2) (q := 17) dX3_holds_16 rfl rfl rfl ?_
        refine wk_aload_n (i := 0) (q := 18) dX3_holds_17 rfl rfl rfl ?_
        refine wk_getI (fi := 3) (q := 21) dX3_holds_18 rfl fl_X3_23 rfl rfl hS.ob ?_
        refine wk_iload_n (i := 1) (q := 22) dX3_holds_21 rfl rfl rfl ?_
        refine wk_isub (q := 23) dX3_holds_22 rfl ?_
        refine wk_icmp_gt (t := 30) (q := 26) dX3_holds_23 rfl rfl (by omega) (by omega) (fun hc23 => ?_) (fun hc23 => ?_)
        · refine wk_iconst (q := 31) dX3_holds_30 rfl ?_
          refine wk_zret dX3_holds_31 rfl (by omega) ⟨Nat.le_refl _, Nat.le_refl _⟩ rfl ?_
          refine ⟨_, _, _, _, rfl, rfl, rfl, rfl, rfl, ?_⟩
          unfold qBo
          omega
        · refine wk_iconst (q := 27) dX3_holds_26 rfl ?_
          refine wk_goto (t := 31) dX3_holds_27 rfl ?_
          refine wk_zret dX3_holds_31 rfl (by omega) ⟨Nat.le_refl _, Nat.le_refl _⟩ rfl ?_
          refine ⟨_, _, _, _, rfl, rfl, rfl, rfl, rfl, ?_⟩
          unfold qBo
          omega
/-- a number cut to a sort -/
def cutS (so v : Int) : Int := if so = 0 then zB v else if so = 1 then zS v else v
theorem cutS_in {so v : Int} (hv : in32 v) : in32 (cutS so v) := by
  unfold cutS
  split
  · exact zI_in _
  · split
    · exact zI_in _
    · exact hv
theorem ct_X3_write {s : Nat} {i v : Int} (hS : qSheet E.2.2 n sh R s) (hi : 0 ≤ i ∧ i < 100) (hso : in32 (I s 2)) :
    Ct l E 0 mX3_write [.ref s, .int (zI i), .int (zI v)] (n, sh, I, L, R) 0 0 (qV n sh (fun I' L' R' => I' = up I (s + 1) i (cutS (I s 2) v) ∧ L' = L ∧ R' = R)) := by
  refine Ct.of (lo := [(0, _), (1, _), (2, _)]) ok_X3_write (Nat.le_of_ble_eq_true rfl) rfl ?_
  refine wk_aload_n (i := 0) (q := 1) dX3_write_0 rfl rfl rfl ?_
  refine wk_getI (fi := 2) (q := 4) dX3_write_1 rfl fl_X3_19 rfl rfl hS.ob ?_
  refine wk_sw2 (t1 := 32) (t2 := 43) (td := 54) dX3_write_4 (by decide) rfl rfl rfl (by omega) (fun hs4 => ?_) (fun hs4 => ?_) (fun hs4 hs4' => ?_)
  · refine wk_aload_n (i := 0) (q := 33) dX3_write_32 rfl rfl rfl ?_
    refine wk_getR (fi := 0) (q := 36) dX3_write_33 rfl fl_X3_9 rfl rfl hS.ob hS.r0 ?_
    refine wk_iload_n (i := 1) (q := 37) dX3_write_36 rfl rfl rfl ?_
    refine wk_iload_n (i := 2) (q := 38) dX3_write_37 rfl rfl rfl ?_
    refine wk_i2b (q := 39) dX3_write_38 rfl ?_
    refine wk_iast (q := 40) dX3_write_39 rfl hS.s0 (by omega) ?_
    refine wk_goto (t := 61) dX3_write_40 rfl ?_
    refine wk_ret dX3_write_61 rfl ⟨Nat.le_refl _, Nat.le_refl _⟩ rfl ?_
    refine ⟨_, _, _, rfl, rfl, ?_, rfl, rfl⟩
    unfold cutS
    first
      | rw [if_pos (by omega)]
      | rw [if_neg (by omega), if_pos (by omega)]
      | rw [if_neg (by omega), if_neg (by omega)]
  · refine wk_aload_n (i := 0) (q := 44) dX3_write_43 rfl rfl rfl ?_
    refine wk_getR (fi := 0) (q := 47) dX3_write_44 rfl fl_X3_9 rfl rfl hS.ob hS.r0 ?_
    refine wk_iload_n (i := 1) (q := 48) dX3_write_47 rfl rfl rfl ?_
    refine wk_iload_n (i := 2) (q := 49) dX3_write_48 rfl rfl rfl ?_
    refine wk_i2s (q := 50) dX3_write_49 rfl ?_
    refine wk_iast (q := 51) dX3_write_50 rfl hS.s0 (by omega) ?_
    refine wk_goto (t := 61) dX3_write_51 rfl ?_
    refine wk_ret dX3_write_61 rfl ⟨Nat.le_refl _, Nat.le_refl _⟩ rfl ?_
    refine ⟨_, _, _, rfl, rfl, ?_, rfl, rfl⟩
    unfold cutS
    first
      | rw [if_pos (by omega)]
      | rw [if_neg (by omega), if_pos (by omega)]
      | rw [if_neg (by omega), if_neg (by omega)]
  · refine wk_aload_n (i := 0) (q := 55) dX3_write_54 rfl rfl rfl ?_
    refine wk_getR (fi := 0) (q := 58) dX3_write_55 rfl fl_X3_9 rfl rfl hS.ob hS.r0 ?_
    refine wk_iload_n (i := 1) (q := 59) dX3_write_58 rfl rfl rfl ?_
    refine wk_iload_n (i := 2) (q := 60) dX3_write_59 rfl rfl rfl ?_
    refine wk_iast (q := 61) dX3_write_60 rfl hS.s0 (by omega) ?_
    refine wk_ret dX3_write_61 rfl ⟨Nat.le_refl _, Nat.le_refl _⟩ rfl ?_
    refine ⟨_, _, _, rfl, rfl, ?_, rfl, rfl⟩
    unfold cutS
    first
      | rw [if_pos (by omega)]
      | rw [if_neg (by omega), if_pos (by omega)]
      | rw [if_neg (by omega), if_neg (by omega)]
theorem ct_X6_unsettle {x o d u1 u2 u3 : Nat} (hX : qRA E.2.2 n sh R x o d u1 u2 u3) :
    Ct l E 0 mX6_unsettle [.ref x] (n, sh, I, L, R) 0 0 (qV n sh (fun I' L' R' => I' = up (up I (x + 150) 0 0) (x + 154) 0 0 ∧ L' = L ∧ R' = R)) := by
  refine Ct.of (lo := [(0, _)]) ok_X6_unsettle (Nat.le_of_ble_eq_true rfl) rfl ?_
  refine wk_aload_n (i := 0) (q := 1) dX6_unsettle_0 rfl rfl rfl ?_
  refine wk_getR (fi := 8) (q := 4) dX6_unsettle_1 rfl fl_X6_53 rfl rfl hX.ob hX.r8 ?_
  refine wk_iconst (q := 5) dX6_unsettle_4 rfl ?_
  refine wk_putZ (fi := 0) (q := 8) dX6_unsettle_5 rfl fl_X6_185 fw_0_0 rfl (by omega) rfl hX.o8.ob ?_
  refine wk_aload_n (i := 0) (q := 9) dX6_unsettle_8 rfl rfl rfl ?_
  refine wk_getR (fi := 9) (q := 12) dX6_unsettle_9 rfl fl_X6_60 rfl rfl hX.ob hX.r9 ?_
  refine wk_iconst (q := 13) dX6_unsettle_12 rfl ?_
  refine wk_putZ (fi := 0) (q := 16) dX6_unsettle_13 rfl fl_X6_197 fw_2_0 rfl (by omega) rfl hX.o9.ob ?_
  refine wk_ret dX6_unsettle_16 rfl ⟨Nat.le_refl _, Nat.le_refl _⟩ rfl ?_
  exact ⟨_, _, _, rfl, rfl, rfl, rfl, rfl⟩
/-- what taking a row of a sheet as of a sort comes to: 0, or a refusal; the fault -/
def refR (V : VV) (k so i z : Int) : Int := if ¬ (0 ≤ k ∧ k < 4) then -1 else if ¬ (0 ≤ so ∧ so ≤ 2) then -2 else if V.th k ≠ 1 then -11 else if V.so k ≠ so then -12 else if z < 0 then -14 else if 0 ≤ i ∧ i ≤ V.sl k ∧ z ≤ V.sl k - i then 0 else -13
def refF (V : VV) (k so i z : Int) : Int := if ¬ (0 ≤ k ∧ k < 4) then 0 else if ¬ (0 ≤ so ∧ so ≤ 2) then 0 else if V.th k ≠ 1 then 1 else if V.so k ≠ so then 2 else if z < 0 then 4 else if 0 ≤ i ∧ i ≤ V.sl k ∧ z ≤ V.sl k - i then 0 else 3
theorem ct_X6_refusalOfRow {x o d u1 u2 u3 : Nat} {V : VV} {k so i z : Int} (hX : qRA E.2.2 n sh R x o d u1 u2 u3) (hS : shSh I x V) (hV : V.shok) (hk : in32 k) (hso : in32 so) (hi : in32 i) (hz : in32 z) :
    Ct l E 1 mX6_refusalOfRow [.ref x, .int (zI k), .int (zI so), .int (zI i), .int (zI z)] (n, sh, I, L, R) 0 0 (qZ n sh (fun v I' L' R' => v = refR V k so i z ∧ (∀ b j, ¬ (b = x ∧ j = 12) → I' b j = I b j) ∧ I' x 12 = refF V k so i z ∧ L' = L ∧ R' = R)) := by
  have fin : ∀ v f : Int, v = refR V k so i z → f = refF V k so i z → v = refR V k so i z ∧ (∀ b j, ¬ (b = x ∧ j = 12) → up I x 12 f b j = I b j) ∧ up I x 12 f x 12 = refF V k so i z ∧ L = L ∧ R = R := by
    intro v f h1 h2
    refine ⟨h1, fun b j q => ?_, by rw [up_eq]; exact h2, rfl, rfl⟩
    by_cases hb : b = x
    · subst hb
      exact up_ni _ _ (fun z => q ⟨rfl, z⟩)
    · exact up_na _ _ _ _ hb
  have up2 : ∀ f g : Int, up (up I x 12 f) x 12 g = up I x 12 g := fun f g => funext fun b => funext fun j => by
    unfold up
    split <;> rfl
  have sf := fun (hk0 : 0 ≤ k ∧ k < 4) => hS k hk0.1 hk0.2
  have sv := fun (hk0 : 0 ≤ k ∧ k < 4) => hV k hk0.1 hk0.2
  refine Ct.of (lo := [(0, _), (1, _), (2, _), (3, _), (4, _)]) ok_X6_refusalOfRow (Nat.le_of_ble_eq_true rfl) rfl ?_
  refine wk_aload_n (i := 0) (q := 1) dX6_refusalOfRow_0 rfl rfl rfl ?_
  refine wk_iconst (q := 2) dX6_refusalOfRow_1 rfl ?_
  refine wk_putI (fi := 12) (q := 5) dX6_refusalOfRow_2 rfl fl_X6_246 fw_6_12 rfl rfl hX.ob ?_
  refine wk_iload_n (i := 1) (q := 6) dX6_refusalOfRow_5 rfl rfl rfl ?_
  refine wk_sP1 (q := 9) dX6_refusalOfRow_6 rfl sl_X6_249 (ct_X6_isSheet hk) (qRo_m ok_X6_isSheet (by decide) (Nat.le_refl _) (Nat.le_refl _)) (Nat.le_of_ble_eq_true rfl) (fun v6 hv6 => ?_)
  rcases hv6 with ⟨rfl, hv6⟩ | ⟨rfl, hv6⟩
  · refine wk_if_ne (t := 14) (q := 12) dX6_refusalOfRow_9 rfl rfl (by omega) (fun _ => ?_) (fun hq => absurd hq (by decide))
    refine wk_iload_n (i := 2) (q := 15) dX6_refusalOfRow_14 rfl rfl rfl ?_
    refine wk_sP1 (q := 18) dX6_refusalOfRow_15 rfl sl_X6_252 (ct_X6_isSort hso) (qRo_m ok_X6_isSort (by decide) (Nat.le_refl _) (Nat.le_refl _)) (Nat.le_of_ble_eq_true rfl) (fun v15 hv15 => ?_)
    rcases hv15 with ⟨rfl, hv15⟩ | ⟨rfl, hv15⟩
    · refine wk_if_ne (t := 24) (q := 21) dX6_refusalOfRow_18 rfl rfl (by omega) (fun _ => ?_) (fun hq => absurd hq (by decide))
      refine wk_aload_n (i := 0) (q := 25) dX6_refusalOfRow_24 rfl rfl rfl ?_
      refine wk_getR (fi := 0) (q := 28) dX6_refusalOfRow_25 rfl fl_X6_13 rfl rfl hX.ob hX.r0 ?_
      refine wk_iload_n (i := 1) (q := 29) dX6_refusalOfRow_28 rfl rfl rfl ?_
      refine wk_aald3 (q := 30) dX6_refusalOfRow_29 rfl hX.s0 (by omega) (hX.w0 (by omega)) ?_
      refine wk_getZ (fi := 1) (q := 33) dX6_refusalOfRow_30 rfl fl_X6_261 rfl rfl (hX.e0 (by omega)).ob ?_
      rw [up_na _ _ _ _ (by omega), (sf hv6).1]
      have s1 := (sv hv6).1
      refine wk_if_ne (t := 42) (q := 36) dX6_refusalOfRow_33 rfl rfl (by omega) (fun hc33 => ?_) (fun hc33 => ?_)
      · refine wk_aload_n (i := 0) (q := 43) dX6_refusalOfRow_42 rfl rfl rfl ?_
        refine wk_getR (fi := 0) (q := 46) dX6_refusalOfRow_43 rfl fl_X6_13 rfl rfl hX.ob hX.r0 ?_
        refine wk_iload_n (i := 1) (q := 47) dX6_refusalOfRow_46 rfl rfl rfl ?_
        refine wk_aald3 (q := 48) dX6_refusalOfRow_47 rfl hX.s0 (by omega) (hX.w0 (by omega)) ?_
        refine wk_getI (fi := 2) (q := 51) dX6_refusalOfRow_48 rfl fl_X6_270 rfl rfl (hX.e0 (by omega)).ob ?_
        rw [up_na _ _ _ _ (by omega), (sf hv6).2.1]
        have s2 := (sv hv6).2.1
        refine wk_iload_n (i := 2) (q := 52) dX6_refusalOfRow_51 rfl rfl rfl ?_
        refine wk_icmp_eq (t := 61) (q := 55) dX6_refusalOfRow_52 rfl rfl (by omega) (by omega) (fun hc52 => ?_) (fun hc52 => ?_)
        · refine wk_iload (i := 4) (q := 63) dX6_refusalOfRow_61 rfl rfl ?_
          refine wk_if_ge (t := 72) (q := 66) dX6_refusalOfRow_63 rfl rfl (by omega) (fun hc63 => ?_) (fun hc63 => ?_)
          · refine wk_aload_n (i := 0) (q := 73) dX6_refusalOfRow_72 rfl rfl rfl ?_
            refine wk_getR (fi := 0) (q := 76) dX6_refusalOfRow_73 rfl fl_X6_13 rfl rfl hX.ob hX.r0 ?_
            refine wk_iload_n (i := 1) (q := 77) dX6_refusalOfRow_76 rfl rfl rfl ?_
            refine wk_aald3 (q := 78) dX6_refusalOfRow_77 rfl hX.s0 (by omega) (hX.w0 (by omega)) ?_
            refine wk_iload_n (i := 3) (q := 79) dX6_refusalOfRow_78 rfl rfl rfl ?_
            refine wk_iload (i := 4) (q := 81) dX6_refusalOfRow_79 rfl rfl ?_
            have e3 : up I x 12 0 (x + 159 + 2 * k.toNat) 3 = V.sl k := by rw [up_na _ _ _ _ (by omega)]; exact (sf hv6).2.2.1
            have s3 := (sv hv6).2.2
            refine wk_cP2 (q := 84) dX6_refusalOfRow_81 rfl vl_X6_264 ⟨_, _, rfl⟩ (hX.e0 (by omega)).ob (ct_X3_holds (hX.e0 (by omega)) hi hz (by rw [e3]; omega)) (qRo_m ok_X3_holds (by decide) (Nat.le_refl _) (Nat.le_refl _)) (Nat.le_of_ble_eq_true rfl) (fun v81 hv81 => ?_)
            rcases hv81 with ⟨rfl, hv81⟩ | ⟨rfl, hv81⟩
            · rw [e3] at hv81
              refine wk_if_eq (t := 91) (q := 87) dX6_refusalOfRow_84 rfl rfl (by omega) (fun hq => absurd hq (by decide)) (fun _ => ?_)
              refine wk_iconst (q := 88) dX6_refusalOfRow_87 rfl ?_
              refine wk_goto (t := 96) dX6_refusalOfRow_88 rfl ?_
              refine wk_iret dX6_refusalOfRow_96 rfl ⟨Nat.le_refl _, Nat.le_refl _⟩ rfl ?_
              refine ⟨_, _, _, _, rfl, rfl, fin _ _ ?_ ?_⟩ <;> (first | unfold refR | unfold refF) <;> (repeat (first | rw [if_pos (by omega)] | rw [if_neg (by omega)])) <;> (try omega)
            · rw [e3] at hv81
              refine wk_if_eq (t := 91) (q := 87) dX6_refusalOfRow_84 rfl rfl (by omega) (fun _ => ?_) (fun hq => absurd hq (by decide))
              refine wk_aload_n (i := 0) (q := 92) dX6_refusalOfRow_91 rfl rfl rfl ?_
              refine wk_iconst (q := 93) dX6_refusalOfRow_92 rfl ?_
              refine wk_cZ1 (q := 96) dX6_refusalOfRow_93 rfl vl_X6_255 ⟨_, _, rfl⟩ hX.ob (ct_X6_faulty hX) (qRo_m ok_X6_faulty (by decide) (Nat.le_refl _) (Nat.le_refl _)) (Nat.le_of_ble_eq_true rfl) (fun v93 I93 L93 R93 hv93 => ?_)
              obtain ⟨rfl, rfl, rfl, rfl⟩ := hv93
              rw [up2]
              refine wk_iret dX6_refusalOfRow_96 rfl ⟨Nat.le_refl _, Nat.le_refl _⟩ rfl ?_
              refine ⟨_, _, _, _, rfl, rfl, fin _ _ ?_ ?_⟩ <;> (first | unfold refR | unfold refF) <;> (repeat (first | rw [if_pos (by omega)] | rw [if_neg (by omega)])) <;> (try omega)
          · refine wk_aload_n (i := 0) (q := 67) dX6_refusalOfRow_66 rfl rfl rfl ?_
            refine wk_iconst (q := 68) dX6_refusalOfRow_67 rfl ?_
            refine wk_cZ1 (q := 71) dX6_refusalOfRow_68 rfl vl_X6_255 ⟨_, _, rfl⟩ hX.ob (ct_X6_faulty hX) (qRo_m ok_X6_faulty (by decide) (Nat.le_refl _) (Nat.le_refl _)) (Nat.le_of_ble_eq_true rfl) (fun v68 I68 L68 R68 hv68 => ?_)
            obtain ⟨rfl, rfl, rfl, rfl⟩ := hv68
            rw [up2]
            refine wk_iret dX6_refusalOfRow_71 rfl ⟨Nat.le_refl _, Nat.le_refl _⟩ rfl ?_
            refine ⟨_, _, _, _, rfl, rfl, fin _ _ ?_ ?_⟩ <;> (first | unfold refR | unfold refF) <;> (repeat (first | rw [if_pos (by omega)] | rw [if_neg (by omega)])) <;> (try omega)
        · refine wk_aload_n (i := 0) (q := 56) dX6_refusalOfRow_55 rfl rfl rfl ?_
          refine wk_iconst (q := 57) dX6_refusalOfRow_56 rfl ?_
          refine wk_cZ1 (q := 60) dX6_refusalOfRow_57 rfl vl_X6_255 ⟨_, _, rfl⟩ hX.ob (ct_X6_faulty hX) (qRo_m ok_X6_faulty (by decide) (Nat.le_refl _) (Nat.le_refl _)) (Nat.le_of_ble_eq_true rfl) (fun v57 I57 L57 R57 hv57 => ?_)
          obtain ⟨rfl, rfl, rfl, rfl⟩ := hv57
          rw [up2]
          refine wk_iret dX6_refusalOfRow_60 rfl ⟨Nat.le_refl _, Nat.le_refl _⟩ rfl ?_
          refine ⟨_, _, _, _, rfl, rfl, fin _ _ ?_ ?_⟩ <;> (first | unfold refR | unfold refF) <;> (repeat (first | rw [if_pos (by omega)] | rw [if_neg (by omega)])) <;> (try omega)
      · refine wk_aload_n (i := 0) (q := 37) dX6_refusalOfRow_36 rfl rfl rfl ?_
        refine wk_iconst (q := 38) dX6_refusalOfRow_37 rfl ?_
        refine wk_cZ1 (q := 41) dX6_refusalOfRow_38 rfl vl_X6_255 ⟨_, _, rfl⟩ hX.ob (ct_X6_faulty hX) (qRo_m ok_X6_faulty (by decide) (Nat.le_refl _) (Nat.le_refl _)) (Nat.le_of_ble_eq_true rfl) (fun v38 I38 L38 R38 hv38 => ?_)
        obtain ⟨rfl, rfl, rfl, rfl⟩ := hv38
        rw [up2]
        refine wk_iret dX6_refusalOfRow_41 rfl ⟨Nat.le_refl _, Nat.le_refl _⟩ rfl ?_
        refine ⟨_, _, _, _, rfl, rfl, fin _ _ ?_ ?_⟩ <;> (first | unfold refR | unfold refF) <;> (repeat (first | rw [if_pos (by omega)] | rw [if_neg (by omega)])) <;> (try omega)
    · refine wk_if_ne (t := 24) (q := 21) dX6_refusalOfRow_18 rfl rfl (by omega) (fun hq => absurd hq (by decide)) (fun _ => ?_)
      refine wk_bipush (q := 23) dX6_refusalOfRow_21 rfl (by decide +kernel) ?_
      refine wk_iret dX6_refusalOfRow_23 rfl ⟨Nat.le_refl _, Nat.le_refl _⟩ rfl ?_
      refine ⟨_, _, _, _, rfl, rfl, fin _ _ ?_ ?_⟩ <;> (first | unfold refR | unfold refF) <;> (repeat (first | rw [if_pos (by omega)] | rw [if_neg (by omega)])) <;> (try omega)
  · refine wk_if_ne (t := 14) (q := 12) dX6_refusalOfRow_9 rfl rfl (by omega) (fun hq => absurd hq (by decide)) (fun _ => ?_)
    refine wk_iconst (q := 13) dX6_refusalOfRow_12 rfl ?_
    refine wk_iret dX6_refusalOfRow_13 rfl ⟨Nat.le_refl _, Nat.le_refl _⟩ rfl ?_
    refine ⟨_, _, _, _, rfl, rfl, fin _ _ ?_ ?_⟩ <;> (first | unfold refR | unfold refF) <;> (repeat (first | rw [if_pos (by omega)] | rw [if_neg (by omega)])) <;> (try omega)
end CLS1
