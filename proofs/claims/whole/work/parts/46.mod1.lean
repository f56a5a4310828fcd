/-! the reference's calls (1) -/
/-- an answer, and the reference's state behind it -/
def mpZ (m : Nat) (I L : qI) (R : qR) (r : Int) (V' : VV) : Int → qI → qI → qR → Prop := fun v I' L' R' => v = r ∧ MI I' m V' ∧ frO I I' m 36 ∧ L' = L ∧ R' = R
theorem mT.cg {I I' : qI} {m : Nat} {T : TT} (h : mT I m T) (hf : ∀ b i, (b = m ∧ (i = 5 ∨ i = 6)) ∨ (m + 4 ≤ b ∧ b ≤ m + 9) → I' b i = I b i) : mT I' m T := by
  obtain ⟨h1, h2, h3, h4⟩ := h
  refine ⟨by rw [hf _ _ (by omega)]; exact h1, by rw [hf _ _ (by omega)]; exact h2, fun d d0 d1 => ?_, fun g g0 g1 => ?_⟩
  · rw [hf _ _ (by omega), hf _ _ (by omega)]
    exact h3 d d0 d1
  · rw [hf _ _ (by omega), hf _ _ (by omega), hf _ _ (by omega)]
    obtain ⟨a1, a2, a3, a4⟩ := h4 g g0 g1
    exact ⟨a1, a2, a3, fun d d0 d1 => by rw [hf _ _ (by omega)]; exact a4 d d0 d1⟩
theorem mNow.cg {I I' : qI} {m : Nat} {T : TT} {C : CC} {la : Int → Int} (h : mNow I m T C la) (hf : ∀ b i, (b = m ∧ (i = 16 ∨ i = 17)) ∨ (m + 10 ≤ b ∧ b ≤ m + 12) → I' b i = I b i) : mNow I' m T C la := by
  obtain ⟨h1, h2, h3, h4⟩ := h
  refine ⟨by rw [hf _ _ (by omega)]; exact h1, by rw [hf _ _ (by omega)]; exact h2, fun s s0 s1 => by rw [hf _ _ (by omega)]; exact h3 s s0 s1, fun g g0 g1 => ?_⟩
  rw [hf _ _ (by omega)]
  obtain ⟨a1, a2⟩ := h4 g g0 g1
  exact ⟨a1, fun d d0 d1 => by rw [hf _ _ (by omega)]; exact a2 d d0 d1⟩
def mSh (I : qI) (m : Nat) (V : VV) : Prop := ∀ k, 0 ≤ k → k < 4 → I (m + 1) k = (if V.th k = 1 then V.so k else -9) ∧ I (m + 2) k = V.sl k ∧ ∀ i, 0 ≤ i → i < 100 → I (m + 3) (100 * k + i) = V.ce k i
/-- behind what writes the trace, the fault and what is tried -/
theorem MI.fld {I I' : qI} {m : Nat} {V V' : VV} (h : MI I m V) (hV : V'.T = V.T ∧ V'.C = V.C ∧ V'.la = V.la ∧ V'.ni = V.ni) (hV2 : V'.th = V.th ∧ V'.so = V.so ∧ V'.sl = V.sl ∧ V'.ce = V.ce) (hI : ∀ b i, (b = m ∧ (i = 5 ∨ i = 6 ∨ i = 16 ∨ i = 17 ∨ i = 18)) ∨ (m + 1 ≤ b ∧ b ≤ m + 12) → I' b i = I b i) (e1 : I' m 1 = V'.tr) (e0 : I' m 0 = V'.fa) : MI I' m V' := by
  obtain ⟨h1, h2, h3, h4, h5, h6, h7⟩ := h
  obtain ⟨v1, v2, v3, v4⟩ := hV
  refine ⟨⟨VV.shok.cg h1.1 hV2, by rw [v1, v2, v3]; exact h1.2⟩, by rw [hI _ _ (by omega), v4]; exact h2, e1, e0, fun k k0 k1 => ?_, by rw [v1]; exact h6.cg (fun b i q => hI b i (by omega)), fun q => by rw [v1, v2, v3]; exact (h7 (by rw [← v1]; exact q)).cg (fun b i q => hI b i (by omega))⟩
  rw [hI _ _ (by omega), hI _ _ (by omega), hV2.1, hV2.2.1, hV2.2.2.1, hV2.2.2.2]
  obtain ⟨a1, a2, a3⟩ := h5 k k0 k1
  exact ⟨a1, a2, fun i i0 i1 => by rw [hI _ _ (by omega)]; exact a3 i i0 i1⟩
theorem MI.fault {I : qI} {m : Nat} {V : VV} (h : MI I m V) (z : Int) : MI (up I m 0 z) m (V.setFa z) :=
  h.fld ⟨rfl, rfl, rfl, rfl⟩ ⟨rfl, rfl, rfl, rfl⟩ (fun b i q => up_off (by omega)) (by rw [up_off (by omega)]; exact h.2.2.1) (up_eq _ _ _ _)
theorem MI.trace {I : qI} {m : Nat} {V : VV} (h : MI I m V) (z : Int) : MI (up I m 1 z) m (V.setTr z) :=
  h.fld ⟨rfl, rfl, rfl, rfl⟩ ⟨rfl, rfl, rfl, rfl⟩ (fun b i q => up_off (by omega)) (up_eq _ _ _ _) (by rw [up_off (by omega)]; exact h.2.2.2.1)
/-- behind what writes what was said, the seats, the step, the courses, what each remembers -/
theorem MI.nowW {I I' : qI} {m : Nat} {V V' : VV} (h : MI I m V) (hV : V'.T = V.T ∧ V'.ni = V.ni ∧ V'.tr = V.tr ∧ V'.fa = V.fa) (hV2 : V'.th = V.th ∧ V'.so = V.so ∧ V'.sl = V.sl ∧ V'.ce = V.ce) (hok : V'.ok) (hI : ∀ b i, ¬ (b = m ∧ (i = 16 ∨ i = 17)) → ¬ (m + 10 ≤ b ∧ b ≤ m + 12) → I' b i = I b i) (hN : 0 < V.T.ng → mNow I' m V'.T V'.C V'.la) : MI I' m V' := by
  obtain ⟨h1, h2, h3, h4, h5, h6, h7⟩ := h
  obtain ⟨v1, v2, v3, v4⟩ := hV
  refine ⟨hok, by rw [hI _ _ (by omega) (by omega), v2]; exact h2, by rw [hI _ _ (by omega) (by omega), v3]; exact h3, by rw [hI _ _ (by omega) (by omega), v4]; exact h4, fun k k0 k1 => ?_, by rw [v1]; exact h6.cg (fun b i q => hI b i (by omega) (by omega)), fun q => hN (by rw [← v1]; exact q)⟩
  rw [hI _ _ (by omega) (by omega), hI _ _ (by omega) (by omega), hV2.1, hV2.2.1, hV2.2.2.1, hV2.2.2.2]
  obtain ⟨a1, a2, a3⟩ := h5 k k0 k1
  exact ⟨a1, a2, fun i i0 i1 => by rw [hI _ _ (by omega) (by omega)]; exact a3 i i0 i1⟩
section MOD1
variable {l : Launch} {E : qEv} {n : Nat} {sh : qSh} {I L : qI} {R : qR}
theorem mp_same {m : Nat} {V V' : VV} {r : Int} (h : MI I m V) (hV : V' = V) {v : Int} (hv : v = r) : ∃ v' I' L' R', some (Value.int (zI v)) = some (.int (zI v')) ∧ (n, sh, I, L, R) = (n, sh, I', L', R') ∧ mpZ m I L R r V' v' I' L' R' :=
  ⟨_, _, _, _, rfl, rfl, hv, by rw [hV]; exact h, frO.rf, rfl, rfl⟩
theorem mp_fault {m : Nat} {V V' : VV} (h : MI I m V) {r v z : Int} {I' : qI} (hI : I' = up I m 0 z) (hV : V' = V.setFa z) (hv : v = r) : ∃ v' I2 L2 R2, some (Value.int (zI v)) = some (.int (zI v')) ∧ (n, sh, I', L, R) = (n, sh, I2, L2, R2) ∧ mpZ m I L R r V' v' I2 L2 R2 :=
  ⟨_, _, _, _, rfl, rfl, hv, by rw [hV, hI]; exact h.fault z, by rw [hI]; exact frO_up _ _ (by omega), rfl, rfl⟩
theorem mp_trace {m : Nat} {V V' : VV} (h : MI I m V) {r v z : Int} {I' : qI} (hI : I' = up I m 1 z) (hV : V' = V.setTr z) (hv : v = r) : ∃ v' I2 L2 R2, some (Value.int (zI v)) = some (.int (zI v')) ∧ (n, sh, I', L, R) = (n, sh, I2, L2, R2) ∧ mpZ m I L R r V' v' I2 L2 R2 :=
  ⟨_, _, _, _, rfl, rfl, hv, by rw [hV, hI]; exact h.trace z, by rw [hI]; exact frO_up _ _ (by omega), rfl, rfl⟩
theorem ct_X7_fails {m : Nat} {k : Int} (hM : qMod E.2.2 n sh R m) :
    Ct l E 0 mX7_fails [.ref m, .int (zI k)] (n, sh, I, L, R) 0 0 (qZ n sh (fun v I' L' R' => v = -10 - k ∧ I' = up I m 0 k ∧ L' = L ∧ R' = R)) := by
  refine Ct.of (lo := [(0, _), (1, _)]) ok_X7_fails (Nat.le_of_ble_eq_true rfl) rfl ?_
  refine wk_aload_n (i := 0) (q := 1) dX7_fails_0 rfl rfl rfl ?_
  refine wk_iload_n (i := 1) (q := 2) dX7_fails_1 rfl rfl rfl ?_
  refine wk_putI (fi := 0) (q := 5) dX7_fails_2 rfl fl_X7_115 fw_7_0 rfl rfl hM.ob ?_
  refine wk_bipush (q := 7) dX7_fails_5 rfl (by decide +kernel) ?_
  refine wk_iload_n (i := 1) (q := 8) dX7_fails_7 rfl rfl rfl ?_
  refine wk_isub (q := 9) dX7_fails_8 rfl ?_
  refine wk_iret dX7_fails_9 rfl ⟨Nat.le_refl _, Nat.le_refl _⟩ rfl ?_
  exact ⟨_, _, _, _, rfl, rfl, rfl, rfl, rfl, rfl⟩
theorem ct_X7_lost {m : Nat} {k : Int} (hM : qMod E.2.2 n sh R m) :
    Ct l E 0 mX7_lost [.ref m, .int (zI k)] (n, sh, I, L, R) 0 0 (qJ n sh (fun v I' L' R' => v = -9223372036854775808 ∧ I' = up I m 0 k ∧ L' = L ∧ R' = R)) := by
  refine Ct.of (lo := [(0, _), (1, _)]) ok_X7_lost (Nat.le_of_ble_eq_true rfl) rfl ?_
  refine wk_aload_n (i := 0) (q := 1) dX7_lost_0 rfl rfl rfl ?_
  refine wk_iload_n (i := 1) (q := 2) dX7_lost_1 rfl rfl rfl ?_
  refine wk_putI (fi := 0) (q := 5) dX7_lost_2 rfl fl_X7_115 fw_7_0 rfl rfl hM.ob ?_
  refine wk_ldc2 (z := (-9223372036854775808)) (q := 8) dX7_lost_5 rfl (v := (-9223372036854775808)) (qtb_in 1088 (by decide +kernel) (by decide +kernel)) rfl ?_
  refine wk_lret dX7_lost_8 rfl ⟨Nat.le_refl _, Nat.le_refl _⟩ rfl ?_
  exact ⟨_, _, _, _, rfl, rfl, rfl, rfl, rfl, rfl⟩
theorem ct_X7_within {v a b : Int} (hv : in32 v) (ha : in32 a) (hb : in32 b) : Ct l E 0 mX7_within [.int (zI v), .int (zI a), .int (zI b)] (n, sh, I, L, R) 0 0 (qP n sh I L R (qBo (a ≤ v ∧ v ≤ b))) := by
  refine Ct.of (lo := [(0, _), (1, _), (2, _)]) ok_X7_within (Nat.le_of_ble_eq_true rfl) rfl ?_
  refine wk_iload_n (i := 0) (q := 1) dX7_within_0 rfl rfl rfl ?_
  refine wk_iload_n (i := 1) (q := 2) dX7_within_1 rfl rfl rfl ?_
  refine wk_icmp_lt (t := 14) (q := 5) dX7_within_2 rfl rfl (by omega) (by omega) (fun hc2 => ?_) (fun hc2 => ?_)
  · refine wk_iconst (q := 15) dX7_within_14 rfl ?_
    refine wk_zret dX7_within_15 rfl (by omega) ⟨Nat.le_refl _, Nat.le_refl _⟩ rfl ?_
    refine ⟨_, _, _, _, rfl, rfl, rfl, rfl, rfl, ?_⟩
    unfold qBo
    omega
  · refine wk_iload_n (i := 0) (q := 6) dX7_within_5 rfl rfl rfl ?_
    refine wk_iload_n (i := 2) (q := 7) dX7_within_6 rfl rfl rfl ?_
    refine wk_icmp_gt (t := 14) (q := 10) dX7_within_7 rfl rfl (by omega) (by omega) (fun hc7 => ?_) (fun hc7 => ?_)
    · refine wk_iconst (q := 15) dX7_within_14 rfl ?_
      refine wk_zret dX7_within_15 rfl (by omega) ⟨Nat.le_refl _, Nat.le_refl _⟩ rfl ?_
      refine ⟨_, _, _, _, rfl, rfl, rfl, rfl, rfl, ?_⟩
      unfold qBo
      omega
    · refine wk_iconst (q := 11) dX7_within_10 rfl ?_
      refine wk_goto (t := 15) dX7_within_11 rfl ?_
      refine wk_zret dX7_within_15 rfl (by omega) ⟨Nat.le_refl _, Nat.le_refl _⟩ rfl ?_
      refine ⟨_, _, _, _, rfl, rfl, rfl, rfl, rfl, ?_⟩
      unfold qBo
      omega
theorem ct_X7_isSheet {k : Int} (hk : in32 k) : Ct l E 1 mX7_isSheet [.int (zI k)] (n, sh, I, L, R) 0 0 (qP n sh I L R (qBo (0 ≤ k ∧ k < 4))) := by
  refine Ct.of (lo := [(0, _)]) ok_X7_isSheet (Nat.le_of_ble_eq_true rfl) rfl ?_
  refine wk_iload_n (i := 0) (q := 1) dX7_isSheet_0 rfl rfl rfl ?_
  refine wk_iconst (q := 2) dX7_isSheet_1 rfl ?_
  refine wk_iconst (q := 3) dX7_isSheet_2 rfl ?_
  refine wk_sP3 (q := 6) dX7_isSheet_3 rfl sl_X7_121 (ct_X7_within hk (by omega) (by omega)) (qRo_m ok_X7_within (by decide) (Nat.le_refl _) (Nat.le_refl _)) (Nat.le_of_ble_eq_true rfl) (fun v3 hv3 => ?_)
  have hb3 : v3 = 0 ∨ v3 = 1 := by unfold qBo at hv3; omega
  refine wk_zret dX7_isSheet_6 rfl (by omega) ⟨Nat.le_refl _, Nat.le_refl _⟩ rfl ?_
  refine ⟨_, _, _, _, rfl, rfl, rfl, rfl, rfl, ?_⟩
  unfold qBo at hv3 ⊢
  omega
theorem ct_X7_isSort {k : Int} (hk : in32 k) : Ct l E 1 mX7_isSort [.int (zI k)] (n, sh, I, L, R) 0 0 (qP n sh I L R (qBo (0 ≤ k ∧ k ≤ 2))) := by
  refine Ct.of (lo := [(0, _)]) ok_X7_isSort (Nat.le_of_ble_eq_true rfl) rfl ?_
  refine wk_iload_n (i := 0) (q := 1) dX7_isSort_0 rfl rfl rfl ?_
  refine wk_iconst (q := 2) dX7_isSort_1 rfl ?_
  refine wk_iconst (q := 3) dX7_isSort_2 rfl ?_
  refine wk_sP3 (q := 6) dX7_isSort_3 rfl sl_X7_121 (ct_X7_within hk (by omega) (by omega)) (qRo_m ok_X7_within (by decide) (Nat.le_refl _) (Nat.le_refl _)) (Nat.le_of_ble_eq_true rfl) (fun v3 hv3 => ?_)
  have hb3 : v3 = 0 ∨ v3 = 1 := by unfold qBo at hv3; omega
  refine wk_zret dX7_isSort_6 rfl (by omega) ⟨Nat.le_refl _, Nat.le_refl _⟩ rfl ?_
  refine ⟨_, _, _, _, rfl, rfl, rfl, rfl, rfl, ?_⟩
  unfold qBo at hv3 ⊢
  omega
theorem ct_X7_isGuest {m : Nat} {g : Int} (hM : qMod E.2.2 n sh R m) (hg : in32 g) (hn : in32 (I m 5)) : Ct l E 0 mX7_isGuest [.ref m, .int (zI g)] (n, sh, I, L, R) 0 0 (qP n sh I L R (qBo (0 ≤ g ∧ g < I m 5))) := by
  refine Ct.of (lo := [(0, _), (1, _)]) ok_X7_isGuest (Nat.le_of_ble_eq_true rfl) rfl ?_
  refine wk_iload_n (i := 1) (q := 1) dX7_isGuest_0 rfl rfl rfl ?_
  refine wk_if_lt (t := 16) (q := 4) dX7_isGuest_1 rfl rfl (by omega) (fun hc1 => ?_) (fun hc1 => ?_)
  · refine wk_iconst (q := 17) dX7_isGuest_16 rfl ?_
    refine wk_zret dX7_isGuest_17 rfl (by omega) ⟨Nat.le_refl _, Nat.le_refl _⟩ rfl ?_
    refine ⟨_, _, _, _, rfl, rfl, rfl, rfl, rfl, ?_⟩
    unfold qBo
    omega
  · refine wk_iload_n (i := 1) (q := 5) dX7_isGuest_4 rfl rfl rfl ?_
    refine wk_aload_n (i := 0) (q := 6) dX7_isGuest_5 rfl rfl rfl ?_
    refine wk_getI (fi := 5) (q := 9) dX7_isGuest_6 rfl fl_X7_125 rfl rfl hM.ob ?_
    refine wk_icmp_ge (t := 16) (q := 12) dX7_isGuest_9 rfl rfl (by omega) (by omega) (fun hc9 => ?_) (fun hc9 => ?_)
    · refine wk_iconst (q := 17) dX7_isGuest_16 rfl ?_
      refine wk_zret dX7_isGuest_17 rfl (by omega) ⟨Nat.le_refl _, Nat.le_refl _⟩ rfl ?_
      refine ⟨_, _, _, _, rfl, rfl, rfl, rfl, rfl, ?_⟩
      unfold qBo
      omega
    · refine wk_iconst (q := 13) dX7_isGuest_12 rfl ?_
      refine wk_goto (t := 17) dX7_isGuest_13 rfl ?_
      refine wk_zret dX7_isGuest_17 rfl (by omega) ⟨Nat.le_refl _, Nat.le_refl _⟩ rfl ?_
      refine ⟨_, _, _, _, rfl, rfl, rfl, rfl, rfl, ?_⟩
      unfold qBo
      omega
theorem ct_X7_isDish {m : Nat} {g : Int} (hM : qMod E.2.2 n sh R m) (hg : in32 g) (hn : in32 (I m 6)) : Ct l E 0 mX7_isDish [.ref m, .int (zI g)] (n, sh, I, L, R) 0 0 (qP n sh I L R (qBo (0 ≤ g ∧ g < I m 6))) := by
  refine Ct.of (lo := [(0, _), (1, _)]) ok_X7_isDish (Nat.le_of_ble_eq_true rfl) rfl ?_
  refine wk_iload_n (i := 1) (q := 1) dX7_isDish_0 rfl rfl rfl ?_
  refine wk_if_lt (t := 16) (q := 4) dX7_isDish_1 rfl rfl (by omega) (fun hc1 => ?_) (fun hc1 => ?_)
  · refine wk_iconst (q := 17) dX7_isDish_16 rfl ?_
    refine wk_zret dX7_isDish_17 rfl (by omega) ⟨Nat.le_refl _, Nat.le_refl _⟩ rfl ?_
    refine ⟨_, _, _, _, rfl, rfl, rfl, rfl, rfl, ?_⟩
    unfold qBo
    omega
  · refine wk_iload_n (i := 1) (q := 5) dX7_isDish_4 rfl rfl rfl ?_
    refine wk_aload_n (i := 0) (q := 6) dX7_isDish_5 rfl rfl rfl ?_
    refine wk_getI (fi := 6) (q := 9) dX7_isDish_6 rfl fl_X7_128 rfl rfl hM.ob ?_
    refine wk_icmp_ge (t := 16) (q := 12) dX7_isDish_9 rfl rfl (by omega) (by omega) (fun hc9 => ?_) (fun hc9 => ?_)
    · refine wk_iconst (q := 17) dX7_isDish_16 rfl ?_
      refine wk_zret dX7_isDish_17 rfl (by omega) ⟨Nat.le_refl _, Nat.le_refl _⟩ rfl ?_
      refine ⟨_, _, _, _, rfl, rfl, rfl, rfl, rfl, ?_⟩
      unfold qBo
      omega
    · refine wk_iconst (q := 13) dX7_isDish_12 rfl ?_
      refine wk_goto (t := 17) dX7_isDish_13 rfl ?_
      refine wk_zret dX7_isDish_17 rfl (by omega) ⟨Nat.le_refl _, Nat.le_refl _⟩ rfl ?_
      refine ⟨_, _, _, _, rfl, rfl, rfl, rfl, rfl, ?_⟩
      unfold qBo
      omega
theorem ct_X7_isTable {m : Nat} (hM : qMod E.2.2 n sh R m) (hn : in32 (I m 5)) : Ct l E 0 mX7_isTable [.ref m] (n, sh, I, L, R) 0 0 (qP n sh I L R (qBo (0 < I m 5))) := by
  refine Ct.of (lo := [(0, _)]) ok_X7_isTable (Nat.le_of_ble_eq_true rfl) rfl ?_
  refine wk_aload_n (i := 0) (q := 1) dX7_isTable_0 rfl rfl rfl ?_
  refine wk_getI (fi := 5) (q := 4) dX7_isTable_1 rfl fl_X7_125 rfl rfl hM.ob ?_
  refine wk_if_le (t := 11) (q := 7) dX7_isTable_4 rfl rfl (by omega) (fun hc4 => ?_) (fun hc4 => ?_)
  · refine wk_iconst (q := 12) dX7_isTable_11 rfl ?_
    refine wk_zret dX7_isTable_12 rfl (by omega) ⟨Nat.le_refl _, Nat.le_refl _⟩ rfl ?_
    refine ⟨_, _, _, _, rfl, rfl, rfl, rfl, rfl, ?_⟩
    unfold qBo
    omega
  · refine wk_iconst (q := 8) dX7_isTable_7 rfl ?_
    refine wk_goto (t := 12) dX7_isTable_8 rfl ?_
    refine wk_zret dX7_isTable_12 rfl (by omega) ⟨Nat.le_refl _, Nat.le_refl _⟩ rfl ?_
    refine ⟨_, _, _, _, rfl, rfl, rfl, rfl, rfl, ?_⟩
    unfold qBo
    omega
theorem MI.seat {m : Nat} {V : VV} (h : MI I m V) {g : Int} (h0 : 0 ≤ g) (h1 : g < V.T.ng) : (0 ≤ seatI V g ∧ seatI V g < V.T.ng) ∧ (∀ s, 0 ≤ s → s < V.T.ng → 0 ≤ I (m + 11) s ∧ I (m + 11) s < V.T.ng) ∧ ∀ s, 0 ≤ s → s < V.T.ng → (I (m + 11) s = g ↔ s = seatI V g) := by
  have hok := h.1
  have hng := hok.ng
  obtain ⟨t1, t2, t3⟩ := hok.tab (by omega)
  obtain ⟨s1, s2, s3⟩ := seatI_ok hok h0 h1
  have hN := h.2.2.2.2.2.2 (by omega)
  refine ⟨⟨s1, s2⟩, fun s a0 a1 => ?_, fun s a0 a1 => by rw [hN.2.2.1 s a0 a1]; exact s3 s a0 a1⟩
  rw [hN.2.2.1 s a0 a1]
  exact od_in t2.1 a0 (by rw [t2.2.1]; exact a1)
theorem om_seatOf {m : Nat} {V : VV} {g : Int} (hM : qMod E.2.2 n sh R m) (h : MI I m V) (h0 : 0 ≤ g) (h1 : g < V.T.ng) :
    Ct l E 0 mX7_seatOf [.ref m, .int (zI g)] (n, sh, I, L, R) 0 0 (qP n sh I L R (fun v => v = seatI V g)) := by
  have hng := h.1.ng
  obtain ⟨s1, s2, s3⟩ := h.seat h0 h1
  have loop : ∀ k : Nat, k ≤ (seatI V g).toNat → Wk l E (qmo E 0 n 0 0 (qP n sh I L R (fun v => v = seatI V g))) mX7_seatOf 0 0 2
      [(0, .ref m), (1, .int (zI g)), (2, .int (zI (k : Int)))] [] (n, sh, I, L, R) := by
    refine up_ind (seatI V g).toNat ?_ ?_
    · have hb := s2 (((seatI V g).toNat : Nat) : Int) (by omega) (by omega)
      have he := (s3 (((seatI V g).toNat : Nat) : Int) (by omega) (by omega)).mpr (by omega)
      refine wk_aload_n (i := 0) (q := 3) dX7_seatOf_2 rfl rfl rfl ?_
      refine wk_getR (fi := 14) (q := 6) dX7_seatOf_3 rfl fl_X7_40 rfl rfl hM.ob hM.r14 ?_
      refine wk_iload_n (i := 2) (q := 7) dX7_seatOf_6 rfl rfl rfl ?_
      refine wk_iald (q := 8) dX7_seatOf_7 rfl hM.s14 (by omega) ?_
      refine wk_iload_n (i := 1) (q := 9) dX7_seatOf_8 rfl rfl rfl ?_
      refine wk_icmp_eq (t := 18) (q := 12) dX7_seatOf_9 rfl rfl (by omega) (by omega) (fun hc9 => ?_) (fun hc9 => ?_)
      · refine wk_iload_n (i := 2) (q := 19) dX7_seatOf_18 rfl rfl rfl ?_
        refine wk_iret dX7_seatOf_19 rfl ⟨Nat.le_refl _, Nat.le_refl _⟩ rfl ?_
        refine ⟨_, _, _, _, rfl, rfl, rfl, rfl, rfl, ?_⟩
        omega
      · exact absurd he hc9
    · rintro k hk ih
      have hb := s2 (k : Int) (by omega) (by omega)
      have he : ¬ I (m + 11) (k : Int) = g := fun q => by have := (s3 (k : Int) (by omega) (by omega)).mp q; omega
      refine wk_aload_n (i := 0) (q := 3) dX7_seatOf_2 rfl rfl rfl ?_
      refine wk_getR (fi := 14) (q := 6) dX7_seatOf_3 rfl fl_X7_40 rfl rfl hM.ob hM.r14 ?_
      refine wk_iload_n (i := 2) (q := 7) dX7_seatOf_6 rfl rfl rfl ?_
      refine wk_iald (q := 8) dX7_seatOf_7 rfl hM.s14 (by omega) ?_
      refine wk_iload_n (i := 1) (q := 9) dX7_seatOf_8 rfl rfl rfl ?_
      refine wk_icmp_eq (t := 18) (q := 12) dX7_seatOf_9 rfl rfl (by omega) (by omega) (fun hc9 => ?_) (fun hc9 => ?_)
      · exact absurd hc9 he
      · refine wk_iinc (lo' := [(0, _), (1, _), (2, _)]) (q := 15) dX7_seatOf_12 rfl rfl (by decide) rfl ?_
        refine wk_goto (t := 2) dX7_seatOf_15 rfl ?_
        exact ih
  refine Ct.of (lo := [(0, _), (1, _)]) ok_X7_seatOf (Nat.le_of_ble_eq_true rfl) rfl ?_
  have l0 := loop 0 (Nat.zero_le _)
  refine wk_iconst (q := 1) dX7_seatOf_0 rfl ?_
  refine wk_istore_n (i := 2) (lo' := [(0, _), (1, _), (2, _)]) (q := 2) dX7_seatOf_1 rfl rfl (by decide) rfl ?_
  exact l0
theorem om_ofDish {m : Nat} {V : VV} {d w : Int} (hM : qMod E.2.2 n sh R m) (h : MI I m V) (hd : in32 d) (hw : in32 w) :
    Ct l E 1 mX7_ofDish [.ref m, .int (zI d), .int (zI w)] (n, sh, I, L, R) 0 0 (qP n sh I L R (fun v => v = r_ofDish V d w)) := by
  have hng := h.1.ng
  obtain ⟨e5, e6, ed, eg⟩ := h.2.2.2.2.2.1
  refine Ct.of (lo := [(0, _), (1, _), (2, _)]) ok_X7_ofDish (Nat.le_of_ble_eq_true rfl) rfl ?_
  refine wk_aload_n (i := 0) (q := 1) dX7_ofDish_0 rfl rfl rfl ?_
  refine wk_iload_n (i := 1) (q := 2) dX7_ofDish_1 rfl rfl rfl ?_
  refine wk_cP1 (q := 5) dX7_ofDish_2 rfl vl_X7_181 ⟨_, _, rfl⟩ hM.ob (ct_X7_isDish hM hd (by omega)) (qRo_m ok_X7_isDish (by decide) (Nat.le_refl _) (Nat.le_refl _)) (Nat.le_of_ble_eq_true rfl) (fun v2 hv2 => ?_)
  rcases hv2 with ⟨rfl, hv2⟩ | ⟨rfl, hv2⟩
  · rw [e6] at hv2
    refine wk_if_ne (t := 10) (q := 8) dX7_ofDish_5 rfl rfl (by omega) (fun _ => ?_) (fun hq => absurd hq (by decide))
    refine wk_iload_n (i := 2) (q := 11) dX7_ofDish_10 rfl rfl rfl ?_
    refine wk_if_ne (t := 23) (q := 14) dX7_ofDish_11 rfl rfl (by omega) (fun hc11 => ?_) (fun hc11 => ?_)
    · refine wk_iload_n (i := 2) (q := 24) dX7_ofDish_23 rfl rfl rfl ?_
      refine wk_iconst (q := 25) dX7_ofDish_24 rfl ?_
      refine wk_icmp_ne (t := 37) (q := 28) dX7_ofDish_25 rfl rfl (by omega) (by omega) (fun hc25 => ?_) (fun hc25 => ?_)
      · refine wk_bipush (q := 39) dX7_ofDish_37 rfl (by decide +kernel) ?_
        refine wk_iret dX7_ofDish_39 rfl ⟨Nat.le_refl _, Nat.le_refl _⟩ rfl ?_
        refine ⟨_, _, _, _, rfl, rfl, rfl, rfl, rfl, ?_⟩
        unfold r_ofDish
        first
          | rw [if_neg hv2]
          | (rw [if_pos hv2, if_pos (by omega)]; exact (ed d hv2.1 hv2.2).1)
          | (rw [if_pos hv2, if_neg (by omega), if_pos (by omega)]; exact (ed d hv2.1 hv2.2).2)
          | rw [if_pos hv2, if_neg (by omega), if_neg (by omega)]
      · refine wk_aload_n (i := 0) (q := 29) dX7_ofDish_28 rfl rfl rfl ?_
        refine wk_getR (fi := 8) (q := 32) dX7_ofDish_29 rfl fl_X7_22 rfl rfl hM.ob hM.r8 ?_
        refine wk_iload_n (i := 1) (q := 33) dX7_ofDish_32 rfl rfl rfl ?_
        refine wk_iald (q := 34) dX7_ofDish_33 rfl hM.s8 (by omega) ?_
        refine wk_goto (t := 39) dX7_ofDish_34 rfl ?_
        refine wk_iret dX7_ofDish_39 rfl ⟨Nat.le_refl _, Nat.le_refl _⟩ rfl ?_
        refine ⟨_, _, _, _, rfl, rfl, rfl, rfl, rfl, ?_⟩
        unfold r_ofDish
        first
          | rw [if_neg hv2]
          | (rw [if_pos hv2, if_pos (by omega)]; exact (ed d hv2.1 hv2.2).1)
          | (rw [if_pos hv2, if_neg (by omega), if_pos (by omega)]; exact (ed d hv2.1 hv2.2).2)
          | rw [if_pos hv2, if_neg (by omega), if_neg (by omega)]
    · refine wk_aload_n (i := 0) (q := 15) dX7_ofDish_14 rfl rfl rfl ?_
      refine wk_getR (fi := 7) (q := 18) dX7_ofDish_15 rfl fl_X7_19 rfl rfl hM.ob hM.r7 ?_
      refine wk_iload_n (i := 1) (q := 19) dX7_ofDish_18 rfl rfl rfl ?_
      refine wk_iald (q := 20) dX7_ofDish_19 rfl hM.s7 (by omega) ?_
      refine wk_goto (t := 39) dX7_ofDish_20 rfl ?_
      refine wk_iret dX7_ofDish_39 rfl ⟨Nat.le_refl _, Nat.le_refl _⟩ rfl ?_
      refine ⟨_, _, _, _, rfl, rfl, rfl, rfl, rfl, ?_⟩
      unfold r_ofDish
      first
        | rw [if_neg hv2]
        | (rw [if_pos hv2, if_pos (by omega)]; exact (ed d hv2.1 hv2.2).1)
        | (rw [if_pos hv2, if_neg (by omega), if_pos (by omega)]; exact (ed d hv2.1 hv2.2).2)
        | rw [if_pos hv2, if_neg (by omega), if_neg (by omega)]
  · rw [e6] at hv2
    refine wk_if_ne (t := 10) (q := 8) dX7_ofDish_5 rfl rfl (by omega) (fun hq => absurd hq (by decide)) (fun _ => ?_)
    refine wk_iconst (q := 9) dX7_ofDish_8 rfl ?_
    refine wk_iret dX7_ofDish_9 rfl ⟨Nat.le_refl _, Nat.le_refl _⟩ rfl ?_
    refine ⟨_, _, _, _, rfl, rfl, rfl, rfl, rfl, ?_⟩
    unfold r_ofDish
    first
      | rw [if_neg hv2]
      | (rw [if_pos hv2, if_pos (by omega)]; exact (ed d hv2.1 hv2.2).1)
      | (rw [if_pos hv2, if_neg (by omega), if_pos (by omega)]; exact (ed d hv2.1 hv2.2).2)
      | rw [if_pos hv2, if_neg (by omega), if_neg (by omega)]
theorem om_ofGuest {m : Nat} {V : VV} {g w : Int} (hM : qMod E.2.2 n sh R m) (h : MI I m V) (hg : in32 g) (hw : in32 w) :
    Ct l E 1 mX7_ofGuest [.ref m, .int (zI g), .int (zI w)] (n, sh, I, L, R) 0 0 (qP n sh I L R (fun v => v = r_ofGuest V g w)) := by
  have hng := h.1.ng
  obtain ⟨e5, e6, ed, eg⟩ := h.2.2.2.2.2.1
  refine Ct.of (lo := [(0, _), (1, _), (2, _)]) ok_X7_ofGuest (Nat.le_of_ble_eq_true rfl) rfl ?_
  refine wk_aload_n (i := 0) (q := 1) dX7_ofGuest_0 rfl rfl rfl ?_
  refine wk_iload_n (i := 1) (q := 2) dX7_ofGuest_1 rfl rfl rfl ?_
  refine wk_cP1 (q := 5) dX7_ofGuest_2 rfl vl_X7_184 ⟨_, _, rfl⟩ hM.ob (ct_X7_isGuest hM hg (by omega)) (qRo_m ok_X7_isGuest (by decide) (Nat.le_refl _) (Nat.le_refl _)) (Nat.le_of_ble_eq_true rfl) (fun v2 hv2 => ?_)
  rcases hv2 with ⟨rfl, hv2⟩ | ⟨rfl, hv2⟩
  · rw [e5] at hv2
    refine wk_if_ne (t := 10) (q := 8) dX7_ofGuest_5 rfl rfl (by omega) (fun _ => ?_) (fun hq => absurd hq (by decide))
    refine wk_iload_n (i := 2) (q := 11) dX7_ofGuest_10 rfl rfl rfl ?_
    refine wk_ts5 (t0 := 44) (t1 := 51) (t2 := 58) (t3 := 65) (t4 := 71) (td := 78) dX7_ofGuest_11 rfl rfl rfl rfl rfl rfl (by omega) (fun hs11 => ?_) (fun hs11 => ?_) (fun hs11 => ?_) (fun hs11 => ?_) (fun hs11 => ?_) (fun hs11 => ?_)
    · refine wk_aload_n (i := 0) (q := 45) dX7_ofGuest_44 rfl rfl rfl ?_
      refine wk_getR (fi := 9) (q := 48) dX7_ofGuest_45 rfl fl_X7_25 rfl rfl hM.ob hM.r9 ?_
      refine wk_iload_n (i := 1) (q := 49) dX7_ofGuest_48 rfl rfl rfl ?_
      refine wk_iald (q := 50) dX7_ofGuest_49 rfl hM.s9 (by omega) ?_
      refine wk_iret dX7_ofGuest_50 rfl ⟨Nat.le_refl _, Nat.le_refl _⟩ rfl ?_
      refine ⟨_, _, _, _, rfl, rfl, rfl, rfl, rfl, ?_⟩
      unfold r_ofGuest
      first
        | rw [if_neg hv2]
        | (rw [if_pos hv2, if_pos hs11]; exact (eg g hv2.1 hv2.2).1)
        | (rw [if_pos hv2, if_neg (by omega), if_pos hs11]; exact (eg g hv2.1 hv2.2).2.1)
        | (rw [if_pos hv2, if_neg (by omega), if_neg (by omega), if_pos hs11]; exact (eg g hv2.1 hv2.2).2.2.1)
        | (rw [if_pos hv2, if_neg (by omega), if_neg (by omega), if_neg (by omega), if_pos hs11]; exact hv67)
        | (rw [if_pos hv2, if_neg (by omega), if_neg (by omega), if_neg (by omega), if_neg (by omega), if_pos hs11]; exact ((h.2.2.2.2.2.2 (by omega)).2.2.2 g hv2.1 hv2.2).1)
        | rw [if_pos hv2, if_neg (by omega), if_neg (by omega), if_neg (by omega), if_neg (by omega), if_neg (by omega)]
    · refine wk_aload_n (i := 0) (q := 52) dX7_ofGuest_51 rfl rfl rfl ?_
      refine wk_getR (fi := 10) (q := 55) dX7_ofGuest_52 rfl fl_X7_28 rfl rfl hM.ob hM.r10 ?_
      refine wk_iload_n (i := 1) (q := 56) dX7_ofGuest_55 rfl rfl rfl ?_
      refine wk_iald (q := 57) dX7_ofGuest_56 rfl hM.s10 (by omega) ?_
      refine wk_iret dX7_ofGuest_57 rfl ⟨Nat.le_refl _, Nat.le_refl _⟩ rfl ?_
      refine ⟨_, _, _, _, rfl, rfl, rfl, rfl, rfl, ?_⟩
      unfold r_ofGuest
      first
        | rw [if_neg hv2]
        | (rw [if_pos hv2, if_pos hs11]; exact (eg g hv2.1 hv2.2).1)
        | (rw [if_pos hv2, if_neg (by omega), if_pos hs11]; exact (eg g hv2.1 hv2.2).2.1)
        | (rw [if_pos hv2, if_neg (by omega), if_neg (by omega), if_pos hs11]; exact (eg g hv2.1 hv2.2).2.2.1)
        | (rw [if_pos hv2, if_neg (by omega), if_neg (by omega), if_neg (by omega), if_pos hs11]; exact hv67)
        | (rw [if_pos hv2, if_neg (by omega), if_neg (by omega), if_neg (by omega), if_neg (by omega), if_pos hs11]; exact ((h.2.2.2.2.2.2 (by omega)).2.2.2 g hv2.1 hv2.2).1)
        | rw [if_pos hv2, if_neg (by omega), if_neg (by omega), if_neg (by omega), if_neg (by omega), if_neg (by omega)]
    · refine wk_aload_n (i := 0) (q := 59) dX7_ofGuest_58 rfl rfl rfl ?_
      refine wk_getR (fi := 11) (q := 62) dX7_ofGuest_59 rfl fl_X7_31 rfl rfl hM.ob hM.r11 ?_
      refine wk_iload_n (i := 1) (q := 63) dX7_ofGuest_62 rfl rfl rfl ?_
      refine wk_iald (q := 64) dX7_ofGuest_63 rfl hM.s11 (by omega) ?_
      refine wk_iret dX7_ofGuest_64 rfl ⟨Nat.le_refl _, Nat.le_refl _⟩ rfl ?_
      refine ⟨_, _, _, _, rfl, rfl, rfl, rfl, rfl, ?_⟩
      unfold r_ofGuest
      first
        | rw [if_neg hv2]
        | (rw [if_pos hv2, if_pos hs11]; exact (eg g hv2.1 hv2.2).1)
        | (rw [if_pos hv2, if_neg (by omega), if_pos hs11]; exact (eg g hv2.1 hv2.2).2.1)
        | (rw [if_pos hv2, if_neg (by omega), if_neg (by omega), if_pos hs11]; exact (eg g hv2.1 hv2.2).2.2.1)
        | (rw [if_pos hv2, if_neg (by omega), if_neg (by omega), if_neg (by omega), if_pos hs11]; exact hv67)
        | (rw [if_pos hv2, if_neg (by omega), if_neg (by omega), if_neg (by omega), if_neg (by omega), if_pos hs11]; exact ((h.2.2.2.2.2.2 (by omega)).2.2.2 g hv2.1 hv2.2).1)
        | rw [if_pos hv2, if_neg (by omega), if_neg (by omega), if_neg (by omega), if_neg (by omega), if_neg (by omega)]
    · refine wk_aload_n (i := 0) (q := 66) dX7_ofGuest_65 rfl rfl rfl ?_
      refine wk_iload_n (i := 1) (q := 67) dX7_ofGuest_66 rfl rfl rfl ?_
      refine wk_cP1 (q := 70) dX7_ofGuest_67 rfl vl_X7_187 ⟨_, _, rfl⟩ hM.ob (om_seatOf hM h hv2.1 hv2.2) (qRo_m ok_X7_seatOf (by decide) (Nat.le_refl _) (Nat.le_refl _)) (Nat.le_of_ble_eq_true rfl) (fun v67 hv67 => ?_)
      refine wk_iret dX7_ofGuest_70 rfl ⟨Nat.le_refl _, Nat.le_refl _⟩ rfl ?_
      refine ⟨_, _, _, _, rfl, rfl, rfl, rfl, rfl, ?_⟩
      unfold r_ofGuest
      first
        | rw [if_neg hv2]
        | (rw [if_pos hv2, if_pos hs11]; exact (eg g hv2.1 hv2.2).1)
        | (rw [if_pos hv2, if_neg (by omega), if_pos hs11]; exact (eg g hv2.1 hv2.2).2.1)
        | (rw [if_pos hv2, if_neg (by omega), if_neg (by omega), if_pos hs11]; exact (eg g hv2.1 hv2.2).2.2.1)
        | (rw [if_pos hv2, if_neg (by omega), if_neg (by omega), if_neg (by omega), if_pos hs11]; exact hv67)
        | (rw [if_pos hv2, if_neg (by omega), if_neg (by omega), if_neg (by omega), if_neg (by omega), if_pos hs11]; exact ((h.2.2.2.2.2.2 (by omega)).2.2.2 g hv2.1 hv2.2).1)
        | rw [if_pos hv2, if_neg (by omega), if_neg (by omega), if_neg (by omega), if_neg (by omega), if_neg (by omega)]
    · refine wk_aload_n (i := 0) (q := 72) dX7_ofGuest_71 rfl rfl rfl ?_
      refine wk_getR (fi := 15) (q := 75) dX7_ofGuest_72 rfl fl_X7_43 rfl rfl hM.ob hM.r15 ?_
      refine wk_iload_n (i := 1) (q := 76) dX7_ofGuest_75 rfl rfl rfl ?_
      refine wk_iald (q := 77) dX7_ofGuest_76 rfl hM.s15 (by omega) ?_
      refine wk_iret dX7_ofGuest_77 rfl ⟨Nat.le_refl _, Nat.le_refl _⟩ rfl ?_
      refine ⟨_, _, _, _, rfl, rfl, rfl, rfl, rfl, ?_⟩
      unfold r_ofGuest
      first
        | rw [if_neg hv2]
        | (rw [if_pos hv2, if_pos hs11]; exact (eg g hv2.1 hv2.2).1)
        | (rw [if_pos hv2, if_neg (by omega), if_pos hs11]; exact (eg g hv2.1 hv2.2).2.1)
        | (rw [if_pos hv2, if_neg (by omega), if_neg (by omega), if_pos hs11]; exact (eg g hv2.1 hv2.2).2.2.1)
        | (rw [if_pos hv2, if_neg (by omega), if_neg (by omega), if_neg (by omega), if_pos hs11]; exact hv67)
        | (rw [if_pos hv2, if_neg (by omega), if_neg (by omega), if_neg (by omega), if_neg (by omega), if_pos hs11]; exact ((h.2.2.2.2.2.2 (by omega)).2.2.2 g hv2.1 hv2.2).1)
        | rw [if_pos hv2, if_neg (by omega), if_neg (by omega), if_neg (by omega), if_neg (by omega), if_neg (by omega)]
    · refine wk_bipush (q := 80) dX7_ofGuest_78 rfl (by decide +kernel) ?_
      refine wk_iret dX7_ofGuest_80 rfl ⟨Nat.le_refl _, Nat.le_refl _⟩ rfl ?_
      refine ⟨_, _, _, _, rfl, rfl, rfl, rfl, rfl, ?_⟩
      unfold r_ofGuest
      first
        | rw [if_neg hv2]
        | (rw [if_pos hv2, if_pos hs11]; exact (eg g hv2.1 hv2.2).1)
        | (rw [if_pos hv2, if_neg (by omega), if_pos hs11]; exact (eg g hv2.1 hv2.2).2.1)
        | (rw [if_pos hv2, if_neg (by omega), if_neg (by omega), if_pos hs11]; exact (eg g hv2.1 hv2.2).2.2.1)
        | (rw [if_pos hv2, if_neg (by omega), if_neg (by omega), if_neg (by omega), if_pos hs11]; exact hv67)
        | (rw [if_pos hv2, if_neg (by omega), if_neg (by omega), if_neg (by omega), if_neg (by omega), if_pos hs11]; exact ((h.2.2.2.2.2.2 (by omega)).2.2.2 g hv2.1 hv2.2).1)
        | rw [if_pos hv2, if_neg (by omega), if_neg (by omega), if_neg (by omega), if_neg (by omega), if_neg (by omega)]
  · rw [e5] at hv2
    refine wk_if_ne (t := 10) (q := 8) dX7_ofGuest_5 rfl rfl (by omega) (fun hq => absurd hq (by decide)) (fun _ => ?_)
    refine wk_iconst (q := 9) dX7_ofGuest_8 rfl ?_
    refine wk_iret dX7_ofGuest_9 rfl ⟨Nat.le_refl _, Nat.le_refl _⟩ rfl ?_
    refine ⟨_, _, _, _, rfl, rfl, rfl, rfl, rfl, ?_⟩
    unfold r_ofGuest
    first
      | rw [if_neg hv2]
      | (rw [if_pos hv2, if_pos hs11]; exact (eg g hv2.1 hv2.2).1)
      | (rw [if_pos hv2, if_neg (by omega), if_pos hs11]; exact (eg g hv2.1 hv2.2).2.1)
      | (rw [if_pos hv2, if_neg (by omega), if_neg (by omega), if_pos hs11]; exact (eg g hv2.1 hv2.2).2.2.1)
      | (rw [if_pos hv2, if_neg (by omega), if_neg (by omega), if_neg (by omega), if_pos hs11]; exact hv67)
      | (rw [if_pos hv2, if_neg (by omega), if_neg (by omega), if_neg (by omega), if_neg (by omega), if_pos hs11]; exact ((h.2.2.2.2.2.2 (by omega)).2.2.2 g hv2.1 hv2.2).1)
      | rw [if_pos hv2, if_neg (by omega), if_neg (by omega), if_neg (by omega), if_neg (by omega), if_neg (by omega)]
theorem om_worth {m : Nat} {V : VV} {g d w : Int} (hM : qMod E.2.2 n sh R m) (h : MI I m V) (hg : in32 g) (hd : in32 d) (hw : in32 w) :
    Ct l E 1 mX7_worth [.ref m, .int (zI g), .int (zI d), .int (zI w)] (n, sh, I, L, R) 0 0 (qP n sh I L R (fun v => v = r_worth V g d w)) := by
  have hng := h.1.ng
  obtain ⟨e5, e6, ed, eg⟩ := h.2.2.2.2.2.1
  refine Ct.of (lo := [(0, _), (1, _), (2, _), (3, _)]) ok_X7_worth (Nat.le_of_ble_eq_true rfl) rfl ?_
  refine wk_aload_n (i := 0) (q := 1) dX7_worth_0 rfl rfl rfl ?_
  refine wk_iload_n (i := 1) (q := 2) dX7_worth_1 rfl rfl rfl ?_
  refine wk_cP1 (q := 5) dX7_worth_2 rfl vl_X7_184 ⟨_, _, rfl⟩ hM.ob (ct_X7_isGuest hM hg (by omega)) (qRo_m ok_X7_isGuest (by decide) (Nat.le_refl _) (Nat.le_refl _)) (Nat.le_of_ble_eq_true rfl) (fun v2 hv2 => ?_)
  rcases hv2 with ⟨rfl, hv2⟩ | ⟨rfl, hv2⟩
  · rw [e5] at hv2
    refine wk_if_eq (t := 16) (q := 8) dX7_worth_5 rfl rfl (by omega) (fun hq => absurd hq (by decide)) (fun _ => ?_)
    refine wk_aload_n (i := 0) (q := 9) dX7_worth_8 rfl rfl rfl ?_
    refine wk_iload_n (i := 2) (q := 10) dX7_worth_9 rfl rfl rfl ?_
    refine wk_cP1 (q := 13) dX7_worth_10 rfl vl_X7_181 ⟨_, _, rfl⟩ hM.ob (ct_X7_isDish hM hd (by omega)) (qRo_m ok_X7_isDish (by decide) (Nat.le_refl _) (Nat.le_refl _)) (Nat.le_of_ble_eq_true rfl) (fun v10 hv10 => ?_)
    rcases hv10 with ⟨rfl, hv10⟩ | ⟨rfl, hv10⟩
    · rw [e6] at hv10
      refine wk_if_ne (t := 19) (q := 16) dX7_worth_13 rfl rfl (by omega) (fun _ => ?_) (fun hq => absurd hq (by decide))
      refine wk_iload_n (i := 3) (q := 20) dX7_worth_19 rfl rfl rfl ?_
      refine wk_if_eq (t := 37) (q := 23) dX7_worth_20 rfl rfl (by omega) (fun hc20 => ?_) (fun hc20 => ?_)
      · refine wk_aload_n (i := 0) (q := 38) dX7_worth_37 rfl rfl rfl ?_
        refine wk_getR (fi := 12) (q := 41) dX7_worth_38 rfl fl_X7_34 rfl rfl hM.ob hM.r12 ?_
        refine wk_bipush (q := 43) dX7_worth_41 rfl (by decide +kernel) ?_
        refine wk_iload_n (i := 1) (q := 44) dX7_worth_43 rfl rfl rfl ?_
        refine wk_imul (q := 45) dX7_worth_44 rfl ?_
        refine wk_iload_n (i := 2) (q := 46) dX7_worth_45 rfl rfl rfl ?_
        refine wk_iadd (q := 47) dX7_worth_46 rfl ?_
        refine wk_iald (q := 48) dX7_worth_47 rfl hM.s12 (by omega) ?_
        refine wk_iret dX7_worth_48 rfl ⟨Nat.le_refl _, Nat.le_refl _⟩ rfl ?_
        refine ⟨_, _, _, _, rfl, rfl, rfl, rfl, rfl, ?_⟩
        unfold r_worth
        first
          | rw [if_neg (fun q => hv2 q.1)]
          | rw [if_neg (fun q => hv10 q.2)]
          | (rw [if_pos ⟨hv2, hv10⟩, if_pos (by omega)]; exact ((h.2.2.2.2.2.2 (by omega)).2.2.2 g hv2.1 hv2.2).2 d hv10.1 hv10.2)
          | (rw [if_pos ⟨hv2, hv10⟩, if_neg (by omega)]; exact (eg g hv2.1 hv2.2).2.2.2 d hv10.1 hv10.2)
      · refine wk_aload_n (i := 0) (q := 24) dX7_worth_23 rfl rfl rfl ?_
        refine wk_getR (fi := 13) (q := 27) dX7_worth_24 rfl fl_X7_37 rfl rfl hM.ob hM.r13 ?_
        refine wk_bipush (q := 29) dX7_worth_27 rfl (by decide +kernel) ?_
        refine wk_iload_n (i := 1) (q := 30) dX7_worth_29 rfl rfl rfl ?_
        refine wk_imul (q := 31) dX7_worth_30 rfl ?_
        refine wk_iload_n (i := 2) (q := 32) dX7_worth_31 rfl rfl rfl ?_
        refine wk_iadd (q := 33) dX7_worth_32 rfl ?_
        refine wk_iald (q := 34) dX7_worth_33 rfl hM.s13 (by omega) ?_
        refine wk_goto (t := 48) dX7_worth_34 rfl ?_
        refine wk_iret dX7_worth_48 rfl ⟨Nat.le_refl _, Nat.le_refl _⟩ rfl ?_
        refine ⟨_, _, _, _, rfl, rfl, rfl, rfl, rfl, ?_⟩
        unfold r_worth
        first
          | rw [if_neg (fun q => hv2 q.1)]
          | rw [if_neg (fun q => hv10 q.2)]
          | (rw [if_pos ⟨hv2, hv10⟩, if_pos (by omega)]; exact ((h.2.2.2.2.2.2 (by omega)).2.2.2 g hv2.1 hv2.2).2 d hv10.1 hv10.2)
          | (rw [if_pos ⟨hv2, hv10⟩, if_neg (by omega)]; exact (eg g hv2.1 hv2.2).2.2.2 d hv10.1 hv10.2)
    · rw [e6] at hv10
      refine wk_if_ne (t := 19) (q := 16) dX7_worth_13 rfl rfl (by omega) (fun hq => absurd hq (by decide)) (fun _ => ?_)
      refine wk_bipush (q := 18) dX7_worth_16 rfl (by decide +kernel) ?_
      refine wk_iret dX7_worth_18 rfl ⟨Nat.le_refl _, Nat.le_refl _⟩ rfl ?_
      refine ⟨_, _, _, _, rfl, rfl, rfl, rfl, rfl, ?_⟩
      unfold r_worth
      first
        | rw [if_neg (fun q => hv2 q.1)]
        | rw [if_neg (fun q => hv10 q.2)]
        | (rw [if_pos ⟨hv2, hv10⟩, if_pos (by omega)]; exact ((h.2.2.2.2.2.2 (by omega)).2.2.2 g hv2.1 hv2.2).2 d hv10.1 hv10.2)
        | (rw [if_pos ⟨hv2, hv10⟩, if_neg (by omega)]; exact (eg g hv2.1 hv2.2).2.2.2 d hv10.1 hv10.2)
  · rw [e5] at hv2
    refine wk_if_eq (t := 16) (q := 8) dX7_worth_5 rfl rfl (by omega) (fun _ => ?_) (fun hq => absurd hq (by decide))
    refine wk_bipush (q := 18) dX7_worth_16 rfl (by decide +kernel) ?_
    refine wk_iret dX7_worth_18 rfl ⟨Nat.le_refl _, Nat.le_refl _⟩ rfl ?_
    refine ⟨_, _, _, _, rfl, rfl, rfl, rfl, rfl, ?_⟩
    unfold r_worth
    first
      | rw [if_neg (fun q => hv2 q.1)]
      | rw [if_neg (fun q => hv10 q.2)]
      | (rw [if_pos ⟨hv2, hv10⟩, if_pos (by omega)]; exact ((h.2.2.2.2.2.2 (by omega)).2.2.2 g hv2.1 hv2.2).2 d hv10.1 hv10.2)
      | (rw [if_pos ⟨hv2, hv10⟩, if_neg (by omega)]; exact (eg g hv2.1 hv2.2).2.2.2 d hv10.1 hv10.2)
theorem om_trace {m : Nat} {V : VV} (hM : qMod E.2.2 n sh R m) (h : MI I m V) : Ct l E 0 mX7_trace [.ref m] (n, sh, I, L, R) 0 0 (qP n sh I L R (fun v => v = V.tr)) := by
  refine Ct.of (lo := [(0, _)]) ok_X7_trace (Nat.le_of_ble_eq_true rfl) rfl ?_
  refine wk_aload_n (i := 0) (q := 1) dX7_trace_0 rfl rfl rfl ?_
  refine wk_getI (fi := 1) (q := 4) dX7_trace_1 rfl fl_X7_316 rfl rfl hM.ob ?_
  refine wk_iret dX7_trace_4 rfl ⟨Nat.le_refl _, Nat.le_refl _⟩ rfl ?_
  refine ⟨_, _, _, _, rfl, rfl, rfl, rfl, rfl, ?_⟩
  exact h.2.2.1
theorem om_fault {m : Nat} {V : VV} (hM : qMod E.2.2 n sh R m) (h : MI I m V) : Ct l E 0 mX7_fault [.ref m] (n, sh, I, L, R) 0 0 (qP n sh I L R (fun v => v = V.fa)) := by
  refine Ct.of (lo := [(0, _)]) ok_X7_fault (Nat.le_of_ble_eq_true rfl) rfl ?_
  refine wk_aload_n (i := 0) (q := 1) dX7_fault_0 rfl rfl rfl ?_
  refine wk_getI (fi := 0) (q := 4) dX7_fault_1 rfl fl_X7_115 rfl rfl hM.ob ?_
  refine wk_iret dX7_fault_4 rfl ⟨Nat.le_refl _, Nat.le_refl _⟩ rfl ?_
  refine ⟨_, _, _, _, rfl, rfl, rfl, rfl, rfl, ?_⟩
  exact h.2.2.2.1
theorem om_many {m : Nat} {V : VV} {w : Int} (hM : qMod E.2.2 n sh R m) (h : MI I m V) (hw : in32 w) :
    Ct l E 1 mX7_many [.ref m, .int (zI w)] (n, sh, I, L, R) 0 0 (qP n sh I L R (fun v => v = r_many V w)) := by
  have hng := h.1.ng
  obtain ⟨e5, e6, ed, eg⟩ := h.2.2.2.2.2.1
  have hN := h.2.2.2.2.2.2
  refine Ct.of (lo := [(0, _), (1, _)]) ok_X7_many (Nat.le_of_ble_eq_true rfl) rfl ?_
  refine wk_iload_n (i := 1) (q := 1) dX7_many_0 rfl rfl rfl ?_
  refine wk_ts5 (t0 := 36) (t1 := 41) (t2 := 46) (t3 := 62) (t4 := 78) (td := 83) dX7_many_1 rfl rfl rfl rfl rfl rfl (by omega) (fun hs1 => ?_) (fun hs1 => ?_) (fun hs1 => ?_) (fun hs1 => ?_) (fun hs1 => ?_) (fun hs1 => ?_)
  · refine wk_aload_n (i := 0) (q := 37) dX7_many_36 rfl rfl rfl ?_
    refine wk_getI (fi := 5) (q := 40) dX7_many_37 rfl fl_X7_125 rfl rfl hM.ob ?_
    refine wk_iret dX7_many_40 rfl ⟨Nat.le_refl _, Nat.le_refl _⟩ rfl ?_
    refine ⟨_, _, _, _, rfl, rfl, rfl, rfl, rfl, ?_⟩
    unfold r_many
    first
      | (rw [if_pos hs1]; exact e5)
      | (rw [if_neg (by omega), if_pos hs1]; exact e6)
      | (rw [if_neg (by omega), if_neg (by omega), if_pos hs1, if_pos hv47]; exact (hN hv47).1)
      | rw [if_neg (by omega), if_neg (by omega), if_pos hs1, if_neg hv47]
      | (rw [if_neg (by omega), if_neg (by omega), if_neg (by omega), if_pos hs1, if_pos hv63]; exact (hN hv63).2.1)
      | rw [if_neg (by omega), if_neg (by omega), if_neg (by omega), if_pos hs1, if_neg hv63]
      | (rw [if_neg (by omega), if_neg (by omega), if_neg (by omega), if_neg (by omega), if_pos hs1]; exact h.2.1)
      | rw [if_neg (by omega), if_neg (by omega), if_neg (by omega), if_neg (by omega), if_neg (by omega)]
  · refine wk_aload_n (i := 0) (q := 42) dX7_many_41 rfl rfl rfl ?_
    refine wk_getI (fi := 6) (q := 45) dX7_many_42 rfl fl_X7_128 rfl rfl hM.ob ?_
    refine wk_iret dX7_many_45 rfl ⟨Nat.le_refl _, Nat.le_refl _⟩ rfl ?_
    refine ⟨_, _, _, _, rfl, rfl, rfl, rfl, rfl, ?_⟩
    unfold r_many
    first
      | (rw [if_pos hs1]; exact e5)
      | (rw [if_neg (by omega), if_pos hs1]; exact e6)
      | (rw [if_neg (by omega), if_neg (by omega), if_pos hs1, if_pos hv47]; exact (hN hv47).1)
      | rw [if_neg (by omega), if_neg (by omega), if_pos hs1, if_neg hv47]
      | (rw [if_neg (by omega), if_neg (by omega), if_neg (by omega), if_pos hs1, if_pos hv63]; exact (hN hv63).2.1)
      | rw [if_neg (by omega), if_neg (by omega), if_neg (by omega), if_pos hs1, if_neg hv63]
      | (rw [if_neg (by omega), if_neg (by omega), if_neg (by omega), if_neg (by omega), if_pos hs1]; exact h.2.1)
      | rw [if_neg (by omega), if_neg (by omega), if_neg (by omega), if_neg (by omega), if_neg (by omega)]
  · refine wk_aload_n (i := 0) (q := 47) dX7_many_46 rfl rfl rfl ?_
    refine wk_cP0 (q := 50) dX7_many_47 rfl vl_X7_190 ⟨_, _, rfl⟩ hM.ob (ct_X7_isTable hM (by omega)) (qRo_m ok_X7_isTable (by decide) (Nat.le_refl _) (Nat.le_refl _)) (Nat.le_of_ble_eq_true rfl) (fun v47 hv47 => ?_)
    rcases hv47 with ⟨rfl, hv47⟩ | ⟨rfl, hv47⟩
    · rw [e5] at hv47
      refine wk_if_eq (t := 60) (q := 53) dX7_many_50 rfl rfl (by omega) (fun hq => absurd hq (by decide)) (fun _ => ?_)
      refine wk_aload_n (i := 0) (q := 54) dX7_many_53 rfl rfl rfl ?_
      refine wk_getI (fi := 16) (q := 57) dX7_many_54 rfl fl_X7_161 rfl rfl hM.ob ?_
      refine wk_goto (t := 61) dX7_many_57 rfl ?_
      refine wk_iret dX7_many_61 rfl ⟨Nat.le_refl _, Nat.le_refl _⟩ rfl ?_
      refine ⟨_, _, _, _, rfl, rfl, rfl, rfl, rfl, ?_⟩
      unfold r_many
      first
        | (rw [if_pos hs1]; exact e5)
        | (rw [if_neg (by omega), if_pos hs1]; exact e6)
        | (rw [if_neg (by omega), if_neg (by omega), if_pos hs1, if_pos hv47]; exact (hN hv47).1)
        | rw [if_neg (by omega), if_neg (by omega), if_pos hs1, if_neg hv47]
        | (rw [if_neg (by omega), if_neg (by omega), if_neg (by omega), if_pos hs1, if_pos hv63]; exact (hN hv63).2.1)
        | rw [if_neg (by omega), if_neg (by omega), if_neg (by omega), if_pos hs1, if_neg hv63]
        | (rw [if_neg (by omega), if_neg (by omega), if_neg (by omega), if_neg (by omega), if_pos hs1]; exact h.2.1)
        | rw [if_neg (by omega), if_neg (by omega), if_neg (by omega), if_neg (by omega), if_neg (by omega)]
    · rw [e5] at hv47
      refine wk_if_eq (t := 60) (q := 53) dX7_many_50 rfl rfl (by omega) (fun _ => ?_) (fun hq => absurd hq (by decide))
      refine wk_iconst (q := 61) dX7_many_60 rfl ?_
      refine wk_iret dX7_many_61 rfl ⟨Nat.le_refl _, Nat.le_refl _⟩ rfl ?_
      refine ⟨_, _, _, _, rfl, rfl, rfl, rfl, rfl, ?_⟩
      unfold r_many
      first
        | (rw [if_pos hs1]; exact e5)
        | (rw [if_neg (by omega), if_pos hs1]; exact e6)
        | (rw [if_neg (by omega), if_neg (by omega), if_pos hs1, if_pos hv47]; exact (hN hv47).1)
        | rw [if_neg (by omega), if_neg (by omega), if_pos hs1, if_neg hv47]
        | (rw [if_neg (by omega), if_neg (by omega), if_neg (by omega), if_pos hs1, if_pos hv63]; exact (hN hv63).2.1)
        | rw [if_neg (by omega), if_neg (by omega), if_neg (by omega), if_pos hs1, if_neg hv63]
        | (rw [if_neg (by omega), if_neg (by omega), if_neg (by omega), if_neg (by omega), if_pos hs1]; exact h.2.1)
        | rw [if_neg (by omega), if_neg (by omega), if_neg (by omega), if_neg (by omega), if_neg (by omega)]
  · refine wk_aload_n (i := 0) (q := 63) dX7_many_62 rfl rfl rfl ?_
    refine wk_cP0 (q := 66) dX7_many_63 rfl vl_X7_190 ⟨_, _, rfl⟩ hM.ob (ct_X7_isTable hM (by omega)) (qRo_m ok_X7_isTable (by decide) (Nat.le_refl _) (Nat.le_refl _)) (Nat.le_of_ble_eq_true rfl) (fun v63 hv63 => ?_)
    rcases hv63 with ⟨rfl, hv63⟩ | ⟨rfl, hv63⟩
    · rw [e5] at hv63
      refine wk_if_eq (t := 76) (q := 69) dX7_many_66 rfl rfl (by omega) (fun hq => absurd hq (by decide)) (fun _ => ?_)
      refine wk_aload_n (i := 0) (q := 70) dX7_many_69 rfl rfl rfl ?_
      refine wk_getI (fi := 17) (q := 73) dX7_many_70 rfl fl_X7_164 rfl rfl hM.ob ?_
      refine wk_goto (t := 77) dX7_many_73 rfl ?_
      refine wk_iret dX7_many_77 rfl ⟨Nat.le_refl _, Nat.le_refl _⟩ rfl ?_
      refine ⟨_, _, _, _, rfl, rfl, rfl, rfl, rfl, ?_⟩
      unfold r_many
      first
        | (rw [if_pos hs1]; exact e5)
        | (rw [if_neg (by omega), if_pos hs1]; exact e6)
        | (rw [if_neg (by omega), if_neg (by omega), if_pos hs1, if_pos hv47]; exact (hN hv47).1)
        | rw [if_neg (by omega), if_neg (by omega), if_pos hs1, if_neg hv47]
        | (rw [if_neg (by omega), if_neg (by omega), if_neg (by omega), if_pos hs1, if_pos hv63]; exact (hN hv63).2.1)
        | rw [if_neg (by omega), if_neg (by omega), if_neg (by omega), if_pos hs1, if_neg hv63]
        | (rw [if_neg (by omega), if_neg (by omega), if_neg (by omega), if_neg (by omega), if_pos hs1]; exact h.2.1)
        | rw [if_neg (by omega), if_neg (by omega), if_neg (by omega), if_neg (by omega), if_neg (by omega)]
    · rw [e5] at hv63
      refine wk_if_eq (t := 76) (q := 69) dX7_many_66 rfl rfl (by omega) (fun _ => ?_) (fun hq => absurd hq (by decide))
      refine wk_iconst (q := 77) dX7_many_76 rfl ?_
      refine wk_iret dX7_many_77 rfl ⟨Nat.le_refl _, Nat.le_refl _⟩ rfl ?_
      refine ⟨_, _, _, _, rfl, rfl, rfl, rfl, rfl, ?_⟩
      unfold r_many
      first
        | (rw [if_pos hs1]; exact e5)
        | (rw [if_neg (by omega), if_pos hs1]; exact e6)
        | (rw [if_neg (by omega), if_neg (by omega), if_pos hs1, if_pos hv47]; exact (hN hv47).1)
        | rw [if_neg (by omega), if_neg (by omega), if_pos hs1, if_neg hv47]
        | (rw [if_neg (by omega), if_neg (by omega), if_neg (by omega), if_pos hs1, if_pos hv63]; exact (hN hv63).2.1)
        | rw [if_neg (by omega), if_neg (by omega), if_neg (by omega), if_pos hs1, if_neg hv63]
        | (rw [if_neg (by omega), if_neg (by omega), if_neg (by omega), if_neg (by omega), if_pos hs1]; exact h.2.1)
        | rw [if_neg (by omega), if_neg (by omega), if_neg (by omega), if_neg (by omega), if_neg (by omega)]
  · refine wk_aload_n (i := 0) (q := 79) dX7_many_78 rfl rfl rfl ?_
    refine wk_getI (fi := 18) (q := 82) dX7_many_79 rfl fl_X7_167 rfl rfl hM.ob ?_
    refine wk_iret dX7_many_82 rfl ⟨Nat.le_refl _, Nat.le_refl _⟩ rfl ?_
    refine ⟨_, _, _, _, rfl, rfl, rfl, rfl, rfl, ?_⟩
    unfold r_many
    first
      | (rw [if_pos hs1]; exact e5)
      | (rw [if_neg (by omega), if_pos hs1]; exact e6)
      | (rw [if_neg (by omega), if_neg (by omega), if_pos hs1, if_pos hv47]; exact (hN hv47).1)
      | rw [if_neg (by omega), if_neg (by omega), if_pos hs1, if_neg hv47]
      | (rw [if_neg (by omega), if_neg (by omega), if_neg (by omega), if_pos hs1, if_pos hv63]; exact (hN hv63).2.1)
      | rw [if_neg (by omega), if_neg (by omega), if_neg (by omega), if_pos hs1, if_neg hv63]
      | (rw [if_neg (by omega), if_neg (by omega), if_neg (by omega), if_neg (by omega), if_pos hs1]; exact h.2.1)
      | rw [if_neg (by omega), if_neg (by omega), if_neg (by omega), if_neg (by omega), if_neg (by omega)]
  · refine wk_bipush (q := 85) dX7_many_83 rfl (by decide +kernel) ?_
    refine wk_iret dX7_many_85 rfl ⟨Nat.le_refl _, Nat.le_refl _⟩ rfl ?_
    refine ⟨_, _, _, _, rfl, rfl, rfl, rfl, rfl, ?_⟩
    unfold r_many
    first
      | (rw [if_pos hs1]; exact e5)
      | (rw [if_neg (by omega), if_pos hs1]; exact e6)
      | (rw [if_neg (by omega), if_neg (by omega), if_pos hs1, if_pos hv47]; exact (hN hv47).1)
      | rw [if_neg (by omega), if_neg (by omega), if_pos hs1, if_neg hv47]
      | (rw [if_neg (by omega), if_neg (by omega), if_neg (by omega), if_pos hs1, if_pos hv63]; exact (hN hv63).2.1)
      | rw [if_neg (by omega), if_neg (by omega), if_neg (by omega), if_pos hs1, if_neg hv63]
      | (rw [if_neg (by omega), if_neg (by omega), if_neg (by omega), if_neg (by omega), if_pos hs1]; exact h.2.1)
      | rw [if_neg (by omega), if_neg (by omega), if_neg (by omega), if_neg (by omega), if_neg (by omega)]
end MOD1
