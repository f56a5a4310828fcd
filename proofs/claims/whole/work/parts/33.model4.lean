/-! the reference: an evening; as it is laid; sums -/
theorem go_other {T : TT} {C : CC} {c c' : Int} {e : ES} (h : c' ≠ c) (x : Int) : ∀ k : Nat, (askN T C c k e).go c' x = e.go c' x
  | 0 => rfl
  | k + 1 => by
    show u2 (askN T C c k e).go c (tgt C k) _ c' x = _
    rw [u2_ne (Or.inl h)]
    exact go_other h x k
theorem tr_go {T : TT} (hT : T.ok) {C : CC} {c : Int} {e : ES} (hC : C.ok T) : ∀ k : Nat, (k : Int) ≤ C.se → ∀ s : Int, 0 ≤ s → s < k → 0 ≤ truly T (tgt C s) ((askN T C c k e).go c (tgt C s)) ∧ truly T (tgt C s) ((askN T C c k e).go c (tgt C s)) ≤ 9
  | 0, _, s, h0, h1 => by omega
  | k + 1, hk, s, h0, h1 => by
    show 0 ≤ truly T (tgt C s) (u2 (askN T C c k e).go c (tgt C k) (askD T C c k (askN T C c k e)) c (tgt C s)) ∧ truly T (tgt C s) (u2 (askN T C c k e).go c (tgt C k) (askD T C c k (askN T C c k e)) c (tgt C s)) ≤ 9
    by_cases hs : s = k
    · subst hs
      rw [u2_eq]
      have ht := tgt_in hC (k : Int)
      have hd := askD_in hT C c k (askN T C c k e)
      unfold truly
      split
      · omega
      · have := (hT.2.2.2.2.2 _ ht.1 ht.2).2.2.2.2.2.2 (askD T C c k (askN T C c k e)) (by omega) (by omega)
        omega
    · have hne : tgt C s ≠ tgt C k := fun q => hs (tgt_inj hT hC ⟨h0, by omega⟩ ⟨by omega, by omega⟩ q)
      rw [u2_ne (Or.inr hne)]
      exact tr_go hT hC k (by omega) s h0 (by omega)
theorem kn_mul {a b : Int} (ha : 0 ≤ a ∧ a ≤ 9) (hb : 0 ≤ b ∧ b ≤ 9) : 0 ≤ a * b ∧ a * b ≤ 81 := by
  refine ⟨Int.mul_nonneg ha.1 hb.1, ?_⟩
  have := Int.mul_le_mul ha.2 hb.2 hb.1 (by omega : (0 : Int) ≤ 9)
  omega
theorem gl_bd {T : TT} (hT : T.ok) {C : CC} (hC : C.ok T) {la : Int → Int} : ∀ c : Nat, ∀ g, 0 ≤ g → g < T.ng → 0 ≤ (crsN T C c (ev0 T la)).gl g ∧ (crsN T C c (ev0 T la)).gl g ≤ 171 * c
  | 0, g, _, _ => by
    show (0 : Int) ≤ 0 ∧ (0 : Int) ≤ _
    omega
  | c + 1, g, g0, g1 => by
    have ih := gl_bd hT hC (la := la) c g g0 g1
    have hse := hC.1
    show 0 ≤ (askN T C c C.se.toNat (crsN T C c (ev0 T la))).gl g ∧ (askN T C c C.se.toNat (crsN T C c (ev0 T la))).gl g ≤ _
    by_cases hs : ∃ s' : Int, 0 ≤ s' ∧ s' < C.se ∧ g = C.od s'
    · obtain ⟨s', s0, s1, rfl⟩ := hs
      rw [gl_course hT hC ⟨s0, s1⟩]
      have hsb := askSeat_in hC s'
      have t1 := tr_go hT hC (c := c) (e := crsN T C c (ev0 T la)) C.se.toNat (by omega) (askSeat C s') hsb.1 (by omega)
      rw [askSeat_tgt hC s0 s1] at t1
      have t2 := tr_go hT hC (c := c) (e := crsN T C c (ev0 T la)) C.se.toNat (by omega) s' s0 (by omega)
      have kn := hT.2.2.2.2.2 _ g0 g1
      have t3 := kn_mul ⟨kn.2.2.1, kn.2.2.2.1⟩ t2
      omega
    · rw [gl_out g (fun s' s0 s1 q => hs ⟨s', s0, s1, q⟩) hC _ (by omega)]
      omega
theorem evE_gl {T : TT} (hT : T.ok) {C : CC} (hC : C.ok T) {la : Int → Int} {g : Int} (g0 : 0 ≤ g) (g1 : g < T.ng) : 0 ≤ (evE T C la).gl g ∧ (evE T C la).gl g ≤ 1368 := by
  have h := gl_bd hT hC (la := la) C.co.toNat g g0 g1
  have := hC.2.2.2.2.1
  have := hC.2.2.2.2.2.1
  unfold evE
  omega
theorem evE_out {T : TT} {C : CC} (hC : C.ok T) {la : Int → Int} {x : Int} (hx : ∀ s, 0 ≤ s → s < C.se → x ≠ C.od s) : (evE T C la).gl x = 0 := by
  unfold evE
  generalize C.co.toNat = k
  induction k with
  | zero => rfl
  | succ k ih =>
    show (askN T C k C.se.toNat (crsN T C k (ev0 T la))).gl x = 0
    rw [gl_out x hx hC _ (by have := hC.1; omega)]
    exact ih
def sumI (f : Int → Int) : Nat → Int
  | 0 => 0
  | k + 1 => sumI f k + f k
def leastI (f : Int → Int) : Nat → Int
  | 0 => f 0
  | k + 1 => min (leastI f k) (f ((k : Int) + 1))
def evM (I I' : qI) (m : Nat) (T : TT) (C : CC) (la : Int → Int) : Prop := frM I I' m ∧ I' m 33 = -9 ∧ mE I' m T (evE T C la) ∧ (∀ g, 0 ≤ g → g < T.ng → I' (m + 23) g = (evE T C la).gl g) ∧ ∀ c s, 0 ≤ c → c < C.co → 0 ≤ s → s < C.se → I' (m + 22) (7 * c + tgt C s) = (evE T C la).go c (tgt C s)
section MODEL4
variable {l : Launch} {E : qEv} {n : Nat} {sh : qSh} {I L : qI} {R : qR}
theorem ct_X7_goNight {m : Nat} {T : TT} {C : CC} {la : Int → Int} (hM : qMod E.2.2 n sh R m) (hok : T.ok) (hC : C.ok T) (hmT : mT I m T) (hmC : mC I m T C) (hla : ∀ g, 0 ≤ g → g < T.ng → I (m + 20) g = la g) (hLA : LAok T la) (hsp : I m 33 = mS C) :
    Ct l E 4 mX7_goNight [.ref m] (n, sh, I, L, R) 0 0 (qV n sh (fun I' L' R' => L' = L ∧ R' = R ∧ evM I I' m T C la)) := by
  have hn := hok.2.1
  have hn0 := hok.1
  have hnd := hok.2.2.2.1
  obtain ⟨z1, z2, z3, z4, z5, z6, z7, z8, z9, z10, z11⟩ := id hC
  have loop2 : ∀ c : Nat, c ≤ C.co.toNat → ∀ I1 : qI, (frM I I1 m ∧ I1 m 33 = mS C ∧ mE I1 m T (crsN T C c (ev0 T la)) ∧ (∀ g, 0 ≤ g → g < T.ng → I1 (m + 23) g = (crsN T C c (ev0 T la)).gl g) ∧ ∀ c' s : Int, 0 ≤ c' → c' < c → 0 ≤ s → s < C.se → I1 (m + 22) (7 * c' + tgt C s) = (crsN T C c (ev0 T la)).go c' (tgt C s)) →
      Wk l E (qmo E 4 n 0 0 (qV n sh (fun I' L' R' => L' = L ∧ R' = R ∧ evM I I' m T C la))) mX7_goNight 0 0 36 [(0, .ref m), (1, .int (zI (c : Int)))] [] (n, sh, I1, L, R) := by
    refine up_ind C.co.toNat ?_ ?_
    · rintro I1 ⟨j1, j2, j3, j4, j5⟩
      have hco := (hmC.fr j1).2.2.1
      refine wk_iload_n (i := 1) (q := 37) dX7_goNight_36 rfl rfl rfl ?_
      refine wk_aload_n (i := 0) (q := 38) dX7_goNight_37 rfl rfl rfl ?_
      refine wk_getI (fi := 17) (q := 41) dX7_goNight_38 rfl fl_X7_164 rfl rfl hM.ob ?_
      refine wk_icmp_ge (t := 55) (q := 44) dX7_goNight_41 rfl rfl (by omega) (by omega) (fun hc41 => ?_) (fun hc41 => ?_)
      · refine wk_aload_n (i := 0) (q := 56) dX7_goNight_55 rfl rfl rfl ?_
        refine wk_bipush (q := 58) dX7_goNight_56 rfl (by decide +kernel) ?_
        refine wk_putI (fi := 33) (q := 61) dX7_goNight_58 rfl fl_X7_200 fw_7_33 rfl rfl hM.ob ?_
        refine wk_ret dX7_goNight_61 rfl ⟨Nat.le_refl _, Nat.le_refl _⟩ rfl ?_
        refine ⟨_, _, _, rfl, rfl, rfl, rfl, fun b i p0 p1 p2 => ?_, up_eq _ _ _ _, ⟨fun d d0 d1 => ?_, fun g g0 g1 => ?_⟩, fun g g0 g1 => ?_, fun c s c0 c1 s0 s1 => ?_⟩
        · by_cases hb : b = m
          · subst hb
            rw [up_ni _ _ (fun q => p0 ⟨rfl, q⟩)]
            exact j1 b i p0 p1 p2
          · rw [up_na _ _ _ _ hb]
            exact j1 b i p0 p1 p2
        · rw [up_na _ _ _ _ (by omega)]
          exact j3.1 d d0 d1
        · rw [up_na _ _ _ _ (by omega), up_na _ _ _ _ (by omega)]
          exact j3.2 g g0 g1
        · rw [up_na _ _ _ _ (by omega)]
          exact j4 g g0 g1
        · rw [up_na _ _ _ _ (by omega)]
          exact j5 c s c0 (by omega) s0 s1
      · omega
    · rintro c hc ih I1 ⟨j1, j2, j3, j4, j5⟩
      have hco := (hmC.fr j1).2.2.1
      have hES := (ESok.ev0 hok hLA).crs hok (C := C) c
      refine wk_iload_n (i := 1) (q := 37) dX7_goNight_36 rfl rfl rfl ?_
      refine wk_aload_n (i := 0) (q := 38) dX7_goNight_37 rfl rfl rfl ?_
      refine wk_getI (fi := 17) (q := 41) dX7_goNight_38 rfl fl_X7_164 rfl rfl hM.ob ?_
      refine wk_icmp_ge (t := 55) (q := 44) dX7_goNight_41 rfl rfl (by omega) (by omega) (fun hc41 => ?_) (fun hc41 => ?_)
      · omega
      · refine wk_aload_n (i := 0) (q := 45) dX7_goNight_44 rfl rfl rfl ?_
        refine wk_iload_n (i := 1) (q := 46) dX7_goNight_45 rfl rfl rfl ?_
        refine wk_cV1 (q := 49) dX7_goNight_46 rfl vl_X7_216 ⟨_, _, rfl⟩ hM.ob (ct_X7_goCourse hM hok hC (hmT.fr j1) (hmC.fr j1) j3 hES j4 (by omega) j2) (qRo_m ok_X7_goCourse (by decide) (Nat.le_refl _) (Nat.le_refl _)) (Nat.le_of_ble_eq_true rfl) (fun I46 L46 R46 hv46 => ?_)
        obtain ⟨rfl, rfl, k1, k2, k3, k4, k5, k6⟩ := hv46
        refine wk_iinc (lo' := [(0, _), (1, _)]) (q := 52) dX7_goNight_49 rfl rfl (by decide) rfl ?_
        refine wk_goto (t := 36) dX7_goNight_52 rfl ?_
        refine ih _ ⟨j1.tr k1, k2.trans j2, k3, k4, fun c' s c0 c1 s0 s1 => ?_⟩
        by_cases hq : c' = c
        · rw [hq]
          exact k5 s s0 s1
        · have ht := tgt_in hC s
          rw [k6 _ (by omega), j5 c' s c0 (by omega) s0 s1]
          exact (go_other hq _ _).symm
  have loop1 : ∀ k : Nat, k ≤ T.ng.toNat → ∀ I1 : qI, (frM I I1 m ∧ I1 m 33 = mS C ∧ (∀ d, 0 ≤ d → d < T.nd → I1 (m + 25) d = T.mn d) ∧ (∀ g, I1 (m + 20) g = I (m + 20) g) ∧ ∀ g : Int, 0 ≤ g → g < k → I1 (m + 23) g = 0 ∧ I1 (m + 24) g = 0) →
      Wk l E (qmo E 4 n 0 0 (qV n sh (fun I' L' R' => L' = L ∧ R' = R ∧ evM I I' m T C la))) mX7_goNight 0 0 6 [(0, .ref m), (1, .int (zI (k : Int)))] [] (n, sh, I1, L, R) := by
    refine up_ind T.ng.toNat ?_ ?_
    · rintro I1 ⟨j1, j2, j3, j4, j5⟩
      have hg := (hmT.fr j1).1
      refine wk_iload_n (i := 1) (q := 7) dX7_goNight_6 rfl rfl rfl ?_
      refine wk_aload_n (i := 0) (q := 8) dX7_goNight_7 rfl rfl rfl ?_
      refine wk_getI (fi := 5) (q := 11) dX7_goNight_8 rfl fl_X7_125 rfl rfl hM.ob ?_
      refine wk_icmp_ge (t := 34) (q := 14) dX7_goNight_11 rfl rfl (by omega) (by omega) (fun hc11 => ?_) (fun hc11 => ?_)
      · refine wk_iconst (q := 35) dX7_goNight_34 rfl ?_
        refine wk_istore_n (i := 1) (lo' := [(0, _), (1, _)]) (q := 36) dX7_goNight_35 rfl rfl (by decide) rfl ?_
        refine loop2 0 (Nat.zero_le _) I1 ⟨j1, j2, ⟨j3, fun g g0 g1 => ⟨by rw [j4]; exact hla g g0 g1, (j5 g g0 (by omega)).2⟩⟩, fun g g0 g1 => (j5 g g0 (by omega)).1, fun c' s c0 c1 => by omega⟩
      · omega
    · rintro k hk ih I1 ⟨j1, j2, j3, j4, j5⟩
      have hg := (hmT.fr j1).1
      refine wk_iload_n (i := 1) (q := 7) dX7_goNight_6 rfl rfl rfl ?_
      refine wk_aload_n (i := 0) (q := 8) dX7_goNight_7 rfl rfl rfl ?_
      refine wk_getI (fi := 5) (q := 11) dX7_goNight_8 rfl fl_X7_125 rfl rfl hM.ob ?_
      refine wk_icmp_ge (t := 34) (q := 14) dX7_goNight_11 rfl rfl (by omega) (by omega) (fun hc11 => ?_) (fun hc11 => ?_)
      · omega
      · refine wk_aload_n (i := 0) (q := 15) dX7_goNight_14 rfl rfl rfl ?_
        refine wk_getR (fi := 35) (q := 18) dX7_goNight_15 rfl fl_X7_76 rfl rfl hM.ob hM.r35 ?_
        refine wk_iload_n (i := 1) (q := 19) dX7_goNight_18 rfl rfl rfl ?_
        refine wk_iconst (q := 20) dX7_goNight_19 rfl ?_
        refine wk_iast (q := 21) dX7_goNight_20 rfl hM.s35 (by omega) ?_
        refine wk_aload_n (i := 0) (q := 22) dX7_goNight_21 rfl rfl rfl ?_
        refine wk_getR (fi := 36) (q := 25) dX7_goNight_22 rfl fl_X7_79 rfl rfl hM.ob hM.r36 ?_
        refine wk_iload_n (i := 1) (q := 26) dX7_goNight_25 rfl rfl rfl ?_
        refine wk_iconst (q := 27) dX7_goNight_26 rfl ?_
        refine wk_iast (q := 28) dX7_goNight_27 rfl hM.s36 (by omega) ?_
        refine wk_iinc (lo' := [(0, _), (1, _)]) (q := 31) dX7_goNight_28 rfl rfl (by decide) rfl ?_
        refine wk_goto (t := 6) dX7_goNight_31 rfl ?_
        refine ih _ ⟨fun b i p0 p1 p2 => by rw [up_na _ _ _ _ (by omega), up_na _ _ _ _ (by omega)]; exact j1 b i p0 p1 p2, by rw [up_na _ _ _ _ (by omega), up_na _ _ _ _ (by omega)]; exact j2, fun d d0 d1 => by rw [up_na _ _ _ _ (by omega), up_na _ _ _ _ (by omega)]; exact j3 d d0 d1, fun g => by rw [up_na _ _ _ _ (by omega), up_na _ _ _ _ (by omega)]; exact j4 g, fun g g0 g1 => ?_⟩
        by_cases hq : g = k
        · rw [hq, up_na _ _ _ _ (by omega), up_eq, up_eq]
          exact ⟨rfl, rfl⟩
        · rw [up_na _ _ _ _ (by omega), up_ni _ _ hq, up_ni _ _ hq, up_na _ _ _ _ (by omega)]
          exact j5 g g0 (by omega)
  refine Ct.of (lo := [(0, _)]) ok_X7_goNight (Nat.le_of_ble_eq_true rfl) rfl ?_
  refine wk_aload_n (i := 0) (q := 1) dX7_goNight_0 rfl rfl rfl ?_
  refine wk_cV0 (q := 4) dX7_goNight_1 rfl vl_X7_213 ⟨_, _, rfl⟩ hM.ob (ct_X7_refill hM hok hmT) (qRo_m ok_X7_refill (by decide) (Nat.le_refl _) (Nat.le_refl _)) (Nat.le_of_ble_eq_true rfl) (fun I1 L1 R1 hv1 => ?_)
  obtain ⟨rfl, rfl, f1, f2⟩ := hv1
  refine wk_iconst (q := 5) dX7_goNight_4 rfl ?_
  refine wk_istore_n (i := 1) (lo' := [(0, _), (1, _)]) (q := 6) dX7_goNight_5 rfl rfl (by decide) rfl ?_
  exact loop1 0 (Nat.zero_le _) _ ⟨fun b i p0 p1 p2 => f1 b i (by omega), by rw [f1 _ _ (by omega)]; exact hsp, f2, fun g => f1 _ _ (by omega), fun g g0 g1 => by omega⟩
/-- the reference's table as it stands now -/
def mNow (I : qI) (m : Nat) (T : TT) (C : CC) (la : Int → Int) : Prop := I m 16 = C.st ∧ I m 17 = C.co ∧ (∀ s, 0 ≤ s → s < T.ng → I (m + 11) s = C.od s) ∧ ∀ g, 0 ≤ g → g < T.ng → I (m + 12) g = la g ∧ ∀ d, 0 ≤ d → d < T.nd → I (m + 10) (6 * g + d) = C.sa g d
def mNowW (I : qI) (m : Nat) (T : TT) (C : CC) (la : Int → Int) : Prop := I m 16 = C.st ∧ I m 17 = C.co ∧ (∀ s, 0 ≤ s → s < T.ng → I (m + 11) s = C.od s) ∧ ∀ g, 0 ≤ g → g < T.ng → I (m + 12) g = la g ∧ ∀ d, 0 ≤ d → d < T.nd → T.wo g d ≠ -1 → I (m + 10) (6 * g + d) = C.sa g d
theorem mNow.w {I : qI} {m : Nat} {T : TT} {C : CC} {la : Int → Int} (h : mNow I m T C la) : mNowW I m T C la := ⟨h.1, h.2.1, h.2.2.1, fun g g0 g1 => ⟨(h.2.2.2 g g0 g1).1, fun d d0 d1 _ => (h.2.2.2 g g0 g1).2 d d0 d1⟩⟩
/-- it is the table as it stands: all sit, each of his kind, no spite -/
def CC.now (C : CC) (T : TT) : Prop := C.ok T ∧ C.se = T.ng ∧ (∀ g, C.kd g = T.kd g) ∧ C.sp = -1 ∧ ∀ g, 0 ≤ g → g < T.ng → ∃ s, 0 ≤ s ∧ s < T.ng ∧ C.od s = g
/-- what laying writes -/
def frL (I I' : qI) (m : Nat) : Prop := ∀ b i, ¬ (b = m ∧ (i = 28 ∨ i = 30 ∨ i = 33)) → ¬ (m + 19 ≤ b ∧ b ≤ m + 21) → I' b i = I b i
theorem ct_X7_layNow {m : Nat} {T : TT} {C : CC} {la : Int → Int} (hM : qMod E.2.2 n sh R m) (hok : T.ok) (hC : C.now T) (hmT : mT I m T) (hN : mNowW I m T C la) :
    Ct l E 0 mX7_layNow [.ref m] (n, sh, I, L, R) 0 0 (qV n sh (fun I' L' R' => L' = L ∧ R' = R ∧ frL I I' m ∧ mT I' m T ∧ mC I' m T C ∧ mNowW I' m T C la ∧ (∀ g, 0 ≤ g → g < T.ng → I' (m + 20) g = la g) ∧ I' m 33 = -9)) := by
  have hn := hok.2.1
  have hn0 := hok.1
  have loop : ∀ k : Nat, k ≤ T.ng.toNat → ∀ I1 : qI, (frL I I1 m ∧ I1 m 28 = T.ng ∧ I1 m 30 = C.st ∧ I1 m 33 = -9 ∧ ∀ g : Int, 0 ≤ g → g < k → I1 (m + 19) g = C.od g ∧ I1 (m + 20) g = la g ∧ I1 (m + 21) g = T.kd g) →
      Wk l E (qmo E 0 n 0 0 (qV n sh (fun I' L' R' => L' = L ∧ R' = R ∧ frL I I' m ∧ mT I' m T ∧ mC I' m T C ∧ mNowW I' m T C la ∧ (∀ g, 0 ≤ g → g < T.ng → I' (m + 20) g = la g) ∧ I' m 33 = -9))) mX7_layNow 0 0 24 [(0, .ref m), (1, .int (zI (k : Int)))] [] (n, sh, I1, L, R) := by
    refine up_ind T.ng.toNat ?_ ?_
    · rintro I1 ⟨j1, j2, j3, j4, j5⟩
      have f : ∀ b i, ¬ (b = m ∧ (i = 28 ∨ i = 30 ∨ i = 33)) → b < m + 19 → I1 b i = I b i := fun b i p0 p1 => j1 b i p0 (by omega)
      have hg : I1 m 5 = T.ng := by rw [f _ _ (by omega) (by omega)]; exact hmT.1
      have r1 : mT I1 m T := by
        obtain ⟨h1, h2, h3, h4⟩ := hmT
        refine ⟨hg, by rw [f _ _ (by omega) (by omega)]; exact h2, fun d d0 d1 => ?_, fun g g0 g1 => ?_⟩
        · rw [f _ _ (by omega) (by omega), f _ _ (by omega) (by omega)]
          exact h3 d d0 d1
        · rw [f _ _ (by omega) (by omega), f _ _ (by omega) (by omega), f _ _ (by omega) (by omega)]
          obtain ⟨a1, a2, a3, a4⟩ := h4 g g0 g1
          exact ⟨a1, a2, a3, fun d d0 d1 => by rw [f _ _ (by omega) (by omega)]; exact a4 d d0 d1⟩
      have r2 : mNowW I1 m T C la := by
        obtain ⟨h1, h2, h3, h4⟩ := hN
        refine ⟨by rw [f _ _ (by omega) (by omega)]; exact h1, by rw [f _ _ (by omega) (by omega)]; exact h2, fun d d0 d1 => by rw [f _ _ (by omega) (by omega)]; exact h3 d d0 d1, fun g g0 g1 => ?_⟩
        rw [f _ _ (by omega) (by omega)]
        obtain ⟨a1, a2⟩ := h4 g g0 g1
        exact ⟨a1, fun d d0 d1 w => by rw [f _ _ (by omega) (by omega)]; exact a2 d d0 d1 w⟩
      have hse := hC.2.1
      have r3 : mC I1 m T C := ⟨by rw [hse]; exact j2, j3, r2.2.1, fun s s0 s1 => (j5 s s0 (by omega)).1, fun g g0 g1 => ⟨by rw [hC.2.2.1]; exact (j5 g g0 (by omega)).2.2, (r2.2.2.2 g g0 g1).2⟩⟩
      refine wk_iload_n (i := 1) (q := 25) dX7_layNow_24 rfl rfl rfl ?_
      refine wk_aload_n (i := 0) (q := 26) dX7_layNow_25 rfl rfl rfl ?_
      refine wk_getI (fi := 5) (q := 29) dX7_layNow_26 rfl fl_X7_125 rfl rfl hM.ob ?_
      refine wk_icmp_ge (t := 74) (q := 32) dX7_layNow_29 rfl rfl (by omega) (by omega) (fun hc29 => ?_) (fun hc29 => ?_)
      · refine wk_ret dX7_layNow_74 rfl ⟨Nat.le_refl _, Nat.le_refl _⟩ rfl ?_
        exact ⟨_, _, _, rfl, rfl, rfl, rfl, j1, r1, r3, r2, fun g g0 g1 => (j5 g g0 (by omega)).2.1, j4⟩
      · omega
    · rintro k hk ih I1 ⟨j1, j2, j3, j4, j5⟩
      have f : ∀ b i, ¬ (b = m ∧ (i = 28 ∨ i = 30 ∨ i = 33)) → b < m + 19 → I1 b i = I b i := fun b i p0 p1 => j1 b i p0 (by omega)
      have hg : I1 m 5 = T.ng := by rw [f _ _ (by omega) (by omega)]; exact hmT.1
      refine wk_iload_n (i := 1) (q := 25) dX7_layNow_24 rfl rfl rfl ?_
      refine wk_aload_n (i := 0) (q := 26) dX7_layNow_25 rfl rfl rfl ?_
      refine wk_getI (fi := 5) (q := 29) dX7_layNow_26 rfl fl_X7_125 rfl rfl hM.ob ?_
      refine wk_icmp_ge (t := 74) (q := 32) dX7_layNow_29 rfl rfl (by omega) (by omega) (fun hc29 => ?_) (fun hc29 => ?_)
      · omega
      · refine wk_aload_n (i := 0) (q := 33) dX7_layNow_32 rfl rfl rfl ?_
        refine wk_getR (fi := 29) (q := 36) dX7_layNow_33 rfl fl_X7_64 rfl rfl hM.ob hM.r29 ?_
        refine wk_iload_n (i := 1) (q := 37) dX7_layNow_36 rfl rfl rfl ?_
        refine wk_aload_n (i := 0) (q := 38) dX7_layNow_37 rfl rfl rfl ?_
        refine wk_getR (fi := 14) (q := 41) dX7_layNow_38 rfl fl_X7_40 rfl rfl hM.ob hM.r14 ?_
        refine wk_iload_n (i := 1) (q := 42) dX7_layNow_41 rfl rfl rfl ?_
        refine wk_iald (q := 43) dX7_layNow_42 rfl hM.s14 (by omega) ?_
        rw [f _ _ (by omega) (by omega), hN.2.2.1 k (by omega) (by omega)]
        refine wk_iast (q := 44) dX7_layNow_43 rfl hM.s29 (by omega) ?_
        refine wk_aload_n (i := 0) (q := 45) dX7_layNow_44 rfl rfl rfl ?_
        refine wk_getR (fi := 31) (q := 48) dX7_layNow_45 rfl fl_X7_67 rfl rfl hM.ob hM.r31 ?_
        refine wk_iload_n (i := 1) (q := 49) dX7_layNow_48 rfl rfl rfl ?_
        refine wk_aload_n (i := 0) (q := 50) dX7_layNow_49 rfl rfl rfl ?_
        refine wk_getR (fi := 15) (q := 53) dX7_layNow_50 rfl fl_X7_43 rfl rfl hM.ob hM.r15 ?_
        refine wk_iload_n (i := 1) (q := 54) dX7_layNow_53 rfl rfl rfl ?_
        refine wk_iald (q := 55) dX7_layNow_54 rfl hM.s15 (by omega) ?_
        rw [up_na _ _ _ _ (by omega), f _ _ (by omega) (by omega), (hN.2.2.2 k (by omega) (by omega)).1]
        refine wk_iast (q := 56) dX7_layNow_55 rfl hM.s31 (by omega) ?_
        refine wk_aload_n (i := 0) (q := 57) dX7_layNow_56 rfl rfl rfl ?_
        refine wk_getR (fi := 32) (q := 60) dX7_layNow_57 rfl fl_X7_70 rfl rfl hM.ob hM.r32 ?_
        refine wk_iload_n (i := 1) (q := 61) dX7_layNow_60 rfl rfl rfl ?_
        refine wk_aload_n (i := 0) (q := 62) dX7_layNow_61 rfl rfl rfl ?_
        refine wk_getR (fi := 9) (q := 65) dX7_layNow_62 rfl fl_X7_25 rfl rfl hM.ob hM.r9 ?_
        refine wk_iload_n (i := 1) (q := 66) dX7_layNow_65 rfl rfl rfl ?_
        refine wk_iald (q := 67) dX7_layNow_66 rfl hM.s9 (by omega) ?_
        rw [up_na _ _ _ _ (by omega), up_na _ _ _ _ (by omega), f _ _ (by omega) (by omega), (hmT.2.2.2 k (by omega) (by omega)).1]
        refine wk_iast (q := 68) dX7_layNow_67 rfl hM.s32 (by omega) ?_
        refine wk_iinc (lo' := [(0, _), (1, _)]) (q := 71) dX7_layNow_68 rfl rfl (by decide) rfl ?_
        refine wk_goto (t := 24) dX7_layNow_71 rfl ?_
        refine ih _ ⟨fun b i p0 p1 => by rw [up_na _ _ _ _ (by omega), up_na _ _ _ _ (by omega), up_na _ _ _ _ (by omega)]; exact j1 b i p0 p1, by rw [up_na _ _ _ _ (by omega), up_na _ _ _ _ (by omega), up_na _ _ _ _ (by omega)]; exact j2, by rw [up_na _ _ _ _ (by omega), up_na _ _ _ _ (by omega), up_na _ _ _ _ (by omega)]; exact j3, by rw [up_na _ _ _ _ (by omega), up_na _ _ _ _ (by omega), up_na _ _ _ _ (by omega)]; exact j4, fun g g0 g1 => ?_⟩
        by_cases hq : g = k
        · rw [hq, up_na _ _ _ _ (by omega), up_na _ _ _ _ (by omega), up_eq, up_na _ _ _ _ (by omega), up_eq, up_eq]
          exact ⟨rfl, rfl, rfl⟩
        · rw [up_na _ _ _ _ (by omega), up_na _ _ _ _ (by omega), up_ni _ _ hq, up_na _ _ _ _ (by omega), up_ni _ _ hq, up_na _ _ _ _ (by omega), up_ni _ _ hq, up_na _ _ _ _ (by omega), up_na _ _ _ _ (by omega)]
          exact j5 g g0 (by omega)
  refine Ct.of (lo := [(0, _)]) ok_X7_layNow (Nat.le_of_ble_eq_true rfl) rfl ?_
  refine wk_aload_n (i := 0) (q := 1) dX7_layNow_0 rfl rfl rfl ?_
  refine wk_aload_n (i := 0) (q := 2) dX7_layNow_1 rfl rfl rfl ?_
  refine wk_getI (fi := 5) (q := 5) dX7_layNow_2 rfl fl_X7_125 rfl rfl hM.ob ?_
  refine wk_putI (fi := 28) (q := 8) dX7_layNow_5 rfl fl_X7_194 fw_7_28 rfl rfl hM.ob ?_
  refine wk_aload_n (i := 0) (q := 9) dX7_layNow_8 rfl rfl rfl ?_
  refine wk_aload_n (i := 0) (q := 10) dX7_layNow_9 rfl rfl rfl ?_
  refine wk_getI (fi := 16) (q := 13) dX7_layNow_10 rfl fl_X7_161 rfl rfl hM.ob ?_
  rw [up_ni _ _ (by omega)]
  refine wk_putI (fi := 30) (q := 16) dX7_layNow_13 rfl fl_X7_197 fw_7_30 rfl rfl hM.ob ?_
  refine wk_aload_n (i := 0) (q := 17) dX7_layNow_16 rfl rfl rfl ?_
  refine wk_bipush (q := 19) dX7_layNow_17 rfl (by decide +kernel) ?_
  refine wk_putI (fi := 33) (q := 22) dX7_layNow_19 rfl fl_X7_200 fw_7_33 rfl rfl hM.ob ?_
  refine wk_iconst (q := 23) dX7_layNow_22 rfl ?_
  refine wk_istore_n (i := 1) (lo' := [(0, _), (1, _)]) (q := 24) dX7_layNow_23 rfl rfl (by decide) rfl ?_
  refine loop 0 (Nat.zero_le _) _ ⟨fun b i p0 p1 => ?_, ?_, ?_, up_eq _ _ _ _, fun g g0 g1 => by omega⟩
  · by_cases hb : b = m
    · subst hb
      rw [up_ni _ _ (by omega), up_ni _ _ (by omega), up_ni _ _ (by omega)]
    · rw [up_na _ _ _ _ hb, up_na _ _ _ _ hb, up_na _ _ _ _ hb]
  · rw [up_ni _ _ (by omega), up_ni _ _ (by omega), up_eq]
    exact hmT.1
  · rw [up_ni _ _ (by omega), up_eq]
    exact hN.1
theorem ct_X7_allGlad {m : Nat} {se : Int} (hM : qMod E.2.2 n sh R m) (hse : I m 28 = se) (hse2 : 0 ≤ se ∧ se ≤ 7) (hod : ∀ s, 0 ≤ s → s < se → 0 ≤ I (m + 19) s ∧ I (m + 19) s < 7) :
    Ct l E 0 mX7_allGlad [.ref m] (n, sh, I, L, R) 0 0 (qP n sh I L R (fun v => v = sumI (fun s => I (m + 23) (I (m + 19) s)) se.toNat)) := by
  have loop : ∀ k : Nat, k ≤ se.toNat → Wk l E (qmo E 0 n 0 0 (qP n sh I L R (fun v => v = sumI (fun s => I (m + 23) (I (m + 19) s)) se.toNat))) mX7_allGlad 0 0 4
      [(0, .ref m), (1, .int (zI (sumI (fun s => I (m + 23) (I (m + 19) s)) k))), (2, .int (zI (k : Int)))] [] (n, sh, I, L, R) := by
    refine up_ind se.toNat ?_ ?_
    · skip
      refine wk_iload_n (i := 2) (q := 5) dX7_allGlad_4 rfl rfl rfl ?_
      refine wk_aload_n (i := 0) (q := 6) dX7_allGlad_5 rfl rfl rfl ?_
      refine wk_getI (fi := 28) (q := 9) dX7_allGlad_6 rfl fl_X7_194 rfl rfl hM.ob ?_
      refine wk_icmp_ge (t := 32) (q := 12) dX7_allGlad_9 rfl rfl (by omega) (by omega) (fun hc9 => ?_) (fun hc9 => ?_)
      · refine wk_iload_n (i := 1) (q := 33) dX7_allGlad_32 rfl rfl rfl ?_
        refine wk_iret dX7_allGlad_33 rfl ⟨Nat.le_refl _, Nat.le_refl _⟩ rfl ?_
        refine ⟨_, _, _, _, rfl, rfl, rfl, rfl, rfl, ?_⟩
        rfl
      · omega
    · rintro k hk ih
      have := hod k (by omega) (by omega)
      refine wk_iload_n (i := 2) (q := 5) dX7_allGlad_4 rfl rfl rfl ?_
      refine wk_aload_n (i := 0) (q := 6) dX7_allGlad_5 rfl rfl rfl ?_
      refine wk_getI (fi := 28) (q := 9) dX7_allGlad_6 rfl fl_X7_194 rfl rfl hM.ob ?_
      refine wk_icmp_ge (t := 32) (q := 12) dX7_allGlad_9 rfl rfl (by omega) (by omega) (fun hc9 => ?_) (fun hc9 => ?_)
      · omega
      · refine wk_iload_n (i := 1) (q := 13) dX7_allGlad_12 rfl rfl rfl ?_
        refine wk_aload_n (i := 0) (q := 14) dX7_allGlad_13 rfl rfl rfl ?_
        refine wk_getR (fi := 35) (q := 17) dX7_allGlad_14 rfl fl_X7_76 rfl rfl hM.ob hM.r35 ?_
        refine wk_aload_n (i := 0) (q := 18) dX7_allGlad_17 rfl rfl rfl ?_
        refine wk_getR (fi := 29) (q := 21) dX7_allGlad_18 rfl fl_X7_64 rfl rfl hM.ob hM.r29 ?_
        refine wk_iload_n (i := 2) (q := 22) dX7_allGlad_21 rfl rfl rfl ?_
        refine wk_iald (q := 23) dX7_allGlad_22 rfl hM.s29 (by omega) ?_
        refine wk_iald (q := 24) dX7_allGlad_23 rfl hM.s35 (by omega) ?_
        refine wk_iadd (q := 25) dX7_allGlad_24 rfl ?_
        refine wk_istore_n (i := 1) (lo' := [(0, _), (1, _), (2, _)]) (q := 26) dX7_allGlad_25 rfl rfl (by decide) rfl ?_
        refine wk_iinc (lo' := [(0, _), (1, _), (2, _)]) (q := 29) dX7_allGlad_26 rfl rfl (by decide) rfl ?_
        refine wk_goto (t := 4) dX7_allGlad_29 rfl ?_
        exact ih
  refine Ct.of (lo := [(0, _)]) ok_X7_allGlad (Nat.le_of_ble_eq_true rfl) rfl ?_
  have l0 := loop 0 (Nat.zero_le _)
  refine wk_iconst (q := 1) dX7_allGlad_0 rfl ?_
  refine wk_istore_n (i := 1) (lo' := [(0, _), (1, _)]) (q := 2) dX7_allGlad_1 rfl rfl (by decide) rfl ?_
  refine wk_iconst (q := 3) dX7_allGlad_2 rfl ?_
  refine wk_istore_n (i := 2) (lo' := [(0, _), (1, _), (2, _)]) (q := 4) dX7_allGlad_3 rfl rfl (by decide) rfl ?_
  exact l0
theorem ct_X7_leastGlad {m : Nat} {ng : Int} (hM : qMod E.2.2 n sh R m) (hg : I m 5 = ng) (hg2 : 1 ≤ ng ∧ ng ≤ 7) (hb : ∀ g, 0 ≤ g → g < ng → 0 ≤ I (m + 23) g ∧ I (m + 23) g ≤ 1368) :
    Ct l E 0 mX7_leastGlad [.ref m] (n, sh, I, L, R) 0 0 (qP n sh I L R (fun v => v = leastI (fun g => I (m + 23) g) (ng - 1).toNat)) := by
  have lb : ∀ k : Nat, k < ng.toNat → 0 ≤ leastI (fun g => I (m + 23) g) k ∧ leastI (fun g => I (m + 23) g) k ≤ 1368 := by
    intro k
    induction k with
    | zero => intro h; exact hb 0 (by omega) (by omega)
    | succ k ih =>
      intro h
      have h1 := ih (by omega)
      have h2 := hb ((k : Int) + 1) (by omega) (by omega)
      have h3 : leastI (fun g => I (m + 23) g) (k + 1) = min (leastI (fun g => I (m + 23) g) k) (I (m + 23) ((k : Int) + 1)) := rfl
      rw [h3]
      omega
  have loop : ∀ k : Nat, k ≤ (ng - 1).toNat → Wk l E (qmo E 0 n 0 0 (qP n sh I L R (fun v => v = leastI (fun g => I (m + 23) g) (ng - 1).toNat))) mX7_leastGlad 0 0 9
      [(0, .ref m), (1, .int (zI (leastI (fun g => I (m + 23) g) k))), (2, .int (zI ((k : Int) + 1)))] [] (n, sh, I, L, R) := by
    refine up_ind (ng - 1).toNat ?_ ?_
    · skip
      refine wk_iload_n (i := 2) (q := 10) dX7_leastGlad_9 rfl rfl rfl ?_
      refine wk_aload_n (i := 0) (q := 11) dX7_leastGlad_10 rfl rfl rfl ?_
      refine wk_getI (fi := 5) (q := 14) dX7_leastGlad_11 rfl fl_X7_125 rfl rfl hM.ob ?_
      refine wk_icmp_ge (t := 44) (q := 17) dX7_leastGlad_14 rfl rfl (by omega) (by omega) (fun hc14 => ?_) (fun hc14 => ?_)
      · refine wk_iload_n (i := 1) (q := 45) dX7_leastGlad_44 rfl rfl rfl ?_
        refine wk_iret dX7_leastGlad_45 rfl ⟨Nat.le_refl _, Nat.le_refl _⟩ rfl ?_
        refine ⟨_, _, _, _, rfl, rfl, rfl, rfl, rfl, ?_⟩
        rfl
      · omega
    · rintro k hk ih
      have h1 := lb k (by omega)
      have h2 := hb ((k : Int) + 1) (by omega) (by omega)
      have h3 : leastI (fun g => I (m + 23) g) (k + 1) = min (leastI (fun g => I (m + 23) g) k) (I (m + 23) ((k : Int) + 1)) := rfl
      rw [h3] at ih
      refine wk_iload_n (i := 2) (q := 10) dX7_leastGlad_9 rfl rfl rfl ?_
      refine wk_aload_n (i := 0) (q := 11) dX7_leastGlad_10 rfl rfl rfl ?_
      refine wk_getI (fi := 5) (q := 14) dX7_leastGlad_11 rfl fl_X7_125 rfl rfl hM.ob ?_
      refine wk_icmp_ge (t := 44) (q := 17) dX7_leastGlad_14 rfl rfl (by omega) (by omega) (fun hc14 => ?_) (fun hc14 => ?_)
      · omega
      · refine wk_aload_n (i := 0) (q := 18) dX7_leastGlad_17 rfl rfl rfl ?_
        refine wk_getR (fi := 35) (q := 21) dX7_leastGlad_18 rfl fl_X7_76 rfl rfl hM.ob hM.r35 ?_
        refine wk_iload_n (i := 2) (q := 22) dX7_leastGlad_21 rfl rfl rfl ?_
        refine wk_iald (q := 23) dX7_leastGlad_22 rfl hM.s35 (by omega) ?_
        refine wk_iload_n (i := 1) (q := 24) dX7_leastGlad_23 rfl rfl rfl ?_
        refine wk_icmp_ge (t := 36) (q := 27) dX7_leastGlad_24 rfl rfl (by omega) (by omega) (fun hc24 => ?_) (fun hc24 => ?_)
        · refine wk_iload_n (i := 1) (q := 37) dX7_leastGlad_36 rfl rfl rfl ?_
          refine wk_istore_n (i := 1) (lo' := [(0, _), (1, _), (2, _)]) (q := 38) dX7_leastGlad_37 rfl rfl (by decide) rfl ?_
          refine wk_iinc (lo' := [(0, _), (1, _), (2, _)]) (q := 41) dX7_leastGlad_38 rfl rfl (by decide) rfl ?_
          refine wk_goto (t := 9) dX7_leastGlad_41 rfl ?_
          first
          | (rw [Int.min_eq_right (by omega)] at ih; exact ih)
          | (rw [Int.min_eq_left (by omega)] at ih; exact ih)
        · refine wk_aload_n (i := 0) (q := 28) dX7_leastGlad_27 rfl rfl rfl ?_
          refine wk_getR (fi := 35) (q := 31) dX7_leastGlad_28 rfl fl_X7_76 rfl rfl hM.ob hM.r35 ?_
          refine wk_iload_n (i := 2) (q := 32) dX7_leastGlad_31 rfl rfl rfl ?_
          refine wk_iald (q := 33) dX7_leastGlad_32 rfl hM.s35 (by omega) ?_
          refine wk_goto (t := 37) dX7_leastGlad_33 rfl ?_
          refine wk_istore_n (i := 1) (lo' := [(0, _), (1, _), (2, _)]) (q := 38) dX7_leastGlad_37 rfl rfl (by decide) rfl ?_
          refine wk_iinc (lo' := [(0, _), (1, _), (2, _)]) (q := 41) dX7_leastGlad_38 rfl rfl (by decide) rfl ?_
          refine wk_goto (t := 9) dX7_leastGlad_41 rfl ?_
          first
          | (rw [Int.min_eq_right (by omega)] at ih; exact ih)
          | (rw [Int.min_eq_left (by omega)] at ih; exact ih)
  refine Ct.of (lo := [(0, _)]) ok_X7_leastGlad (Nat.le_of_ble_eq_true rfl) rfl ?_
  have l0 := loop 0 (Nat.zero_le _)
  refine wk_aload_n (i := 0) (q := 1) dX7_leastGlad_0 rfl rfl rfl ?_
  refine wk_getR (fi := 35) (q := 4) dX7_leastGlad_1 rfl fl_X7_76 rfl rfl hM.ob hM.r35 ?_
  refine wk_iconst (q := 5) dX7_leastGlad_4 rfl ?_
  refine wk_iald (q := 6) dX7_leastGlad_5 rfl hM.s35 (by omega) ?_
  refine wk_istore_n (i := 1) (lo' := [(0, _), (1, _)]) (q := 7) dX7_leastGlad_6 rfl rfl (by decide) rfl ?_
  refine wk_iconst (q := 8) dX7_leastGlad_7 rfl ?_
  refine wk_istore_n (i := 2) (lo' := [(0, _), (1, _), (2, _)]) (q := 9) dX7_leastGlad_8 rfl rfl (by decide) rfl ?_
  exact l0
end MODEL4
