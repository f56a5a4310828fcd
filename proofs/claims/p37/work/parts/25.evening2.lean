/-! an evening goes by -/
def ESok (T : TT) (e : ES) : Prop := (∀ d, 0 ≤ d → d < T.nd → 0 ≤ e.le d ∧ e.le d ≤ 9) ∧ LAok T e.la
theorem tgt_ix {T : TT} {C : CC} (hC : C.ok T) {s : Int} : 0 ≤ (s + C.st) % C.se ∧ (s + C.st) % C.se < C.se :=
  ⟨Int.emod_nonneg _ (by have := hC.1; omega), Int.emod_lt_of_pos _ (by have := hC.1; omega)⟩
theorem tgt_in {T : TT} {C : CC} (hC : C.ok T) (s : Int) : 0 ≤ tgt C s ∧ tgt C s < T.ng := hC.2.2.2.2.2.2.2.2.1 _ (tgt_ix hC).1 (tgt_ix hC).2
theorem od_in {T : TT} {C : CC} (hC : C.ok T) {s : Int} (h0 : 0 ≤ s) (h1 : s < C.se) : 0 ≤ C.od s ∧ C.od s < T.ng := hC.2.2.2.2.2.2.2.2.1 _ h0 h1
theorem askD_in {T : TT} (hT : T.ok) (C : CC) (c s : Int) (e : ES) : askD T C c s e = -9 ∨ (0 ≤ askD T C c s e ∧ askD T C c s e < T.nd ∧ 0 < e.le (askD T C c s e) ∧ T.wo (tgt C s) (askD T C c s e) ≠ -1) := wish_in hT C _ _ _
theorem ESok.ask {T : TT} (hT : T.ok) {C : CC} {c s : Int} {e : ES} (h : ESok T e) : ESok T (askS T C c s e) := by
  have hd := askD_in hT C c s e
  have hnd := hT.2.2.1
  refine ⟨fun d d0 d1 => ?_, fun g g0 g1 => ?_⟩
  · show 0 ≤ (if askD T C c s e < 0 then e.le else u1 e.le (askD T C c s e) (e.le (askD T C c s e) - 1)) d ∧ (if askD T C c s e < 0 then e.le else u1 e.le (askD T C c s e) (e.le (askD T C c s e) - 1)) d ≤ 9
    have := h.1 d d0 d1
    split
    · exact this
    · unfold u1
      split
      · rename_i q1 q2
        subst q2
        omega
      · exact this
  · show -9 ≤ u1 e.la (tgt C s) (askD T C c s e) g ∧ u1 e.la (tgt C s) (askD T C c s e) g < T.nd
    unfold u1
    split
    · omega
    · exact h.2 g g0 g1
theorem ESok.askN {T : TT} (hT : T.ok) {C : CC} {c : Int} {e : ES} (h : ESok T e) : ∀ s, ESok T (askN T C c s e)
  | 0 => h
  | s + 1 => (ESok.askN hT h s).ask hT
theorem ESok.crs {T : TT} (hT : T.ok) {C : CC} {e : ES} (h : ESok T e) : ∀ c, ESok T (crsN T C c e)
  | 0 => h
  | c + 1 => (ESok.crs hT h c).askN hT _
theorem ESok.ev0 {T : TT} (hT : T.ok) {la : Int → Int} (h : LAok T la) : ESok T (ev0 T la) := ⟨fun d d0 d1 => by have := hT.2.2.2.2.1 d d0 d1; show 0 ≤ T.mn d ∧ T.mn d ≤ 9; omega, h⟩
/-- what an evening doesn't write (the spite goes) -/
def frV (I I' : qI) (t : Nat) : Prop := ∀ b i, ¬ (b = t ∧ i = 8) → b ≠ t + 17 → b ≠ t + 26 → ¬ (t + 28 ≤ b ∧ b < t + 38) → I' b i = I b i
theorem frV.rf {I : qI} {t : Nat} : frV I I t := fun _ _ _ _ _ _ => rfl
theorem frV.tr {I I1 I2 : qI} {t : Nat} (h1 : frV I I1 t) (h2 : frV I1 I2 t) : frV I I2 t := fun b i q0 q1 q2 q3 => (h2 b i q0 q1 q2 q3).trans (h1 b i q0 q1 q2 q3)
theorem frT.v {I I' : qI} {t : Nat} (h : frT I I' t) : frV I I' t := fun b i _ q1 q2 q3 => h b i q1 q2 q3
theorem shT.fv {I I' : qI} {t o : Nat} {T : TT} (h : shT I o T) (ho : o + 14 ≤ t) (hf : frV I I' t) (hT : T.ok) : shT I' o T := by
  have hn := hT.2.1
  have f : ∀ b i, b < t → I' b i = I b i := fun b i hb => hf b i (by omega) (by omega) (by omega) (by omega)
  refine ⟨by rw [f _ _ (by omega)]; exact h.1, by rw [f _ _ (by omega)]; exact h.2.1, fun d h0 h1 => ?_, fun g h0 h1 => ?_⟩
  · rw [f _ _ (by omega), f _ _ (by omega)]
    exact h.2.2.1 d h0 h1
  · rw [f _ _ (by omega), f _ _ (by omega), f _ _ (by omega)]
    obtain ⟨a1, a2, a3, a4⟩ := h.2.2.2 g h0 h1
    exact ⟨a1, a2, a3, fun d d0 d1 => by rw [f _ _ (by omega)]; exact a4 d d0 d1⟩
theorem shC.fv {I I' : qI} {t : Nat} {T : TT} {C : CC} (h : shC I t T C) (hf : frV I I' t) (hT : T.ok) : shC I' t T C := by
  have hn := hT.2.1
  have f : ∀ b i, ¬ (b = t ∧ i = 8) → b < t + 26 → b ≠ t + 17 → I' b i = I b i := fun b i h8 hb h17 => hf b i h8 h17 (by omega) (by omega)
  obtain ⟨h1, h2, h3, h4, h5⟩ := h
  refine ⟨by rw [f _ _ (by omega) (by omega) (by omega)]; exact h1, by rw [f _ _ (by omega) (by omega) (by omega)]; exact h2, by rw [f _ _ (by omega) (by omega) (by omega)]; exact h3, fun s s0 s1 => by rw [f _ _ (by omega) (by omega) (by omega)]; exact h4 s s0 s1, fun g g0 g1 => ?_⟩
  rw [f _ _ (by omega) (by omega) (by omega)]
  obtain ⟨a1, a2⟩ := h5 g g0 g1
  exact ⟨a1, fun d d0 d1 => by rw [f _ _ (by omega) (by omega) (by omega)]; exact a2 d d0 d1⟩
/-- behind an evening -/
def evP (I I' : qI) (t : Nat) (T : TT) (C : CC) (la : Int → Int) : Prop := frV I I' t ∧ I' t 8 = -1 ∧ shE I' t T (evE T C la) ∧ ∀ c s, 0 ≤ c → c < C.co → 0 ≤ s → s < C.se → I' (t + 28 + c.toNat) (tgt C s) = (evE T C la).go c (tgt C s)
section EVE
variable {l : Launch} {E : qEv} {n : Nat} {sh : qSh} {I L : qI} {R : qR}
theorem ct_X4_evening {t o : Nat} {T : TT} {C : CC} {la : Int → Int} (hT : qTab E.2.2 n sh R t o) (hot : o + 14 ≤ t) (hok : T.ok) (hC : C.ok T) (hsT : shT I o T) (hsC : shC I t T C) (hla : ∀ g, 0 ≤ g → g < T.ng → I (t + 17) g = la g) (hLA : LAok T la) (hsp : I t 8 = C.sp) :
    Ct l E 3 mX4_evening [.ref t] (n, sh, I, L, R) 0 0 (qV n sh (fun I' L' R' => L' = L ∧ R' = R ∧ evP I I' t T C la)) := by
  have hn := hok.2.1
  have hnd := hok.2.2.2.1
  obtain ⟨z1, z2, z3, z4, z5, z6, z7, z8, z9, z10, z11⟩ := id hC
  have out : ∀ c : Nat, c ≤ C.co.toNat → ∀ I1 : qI, (frV I I1 t ∧ I1 t 8 = spc C c ∧ shE I1 t T (crsN T C c (ev0 T la)) ∧ ∀ c' s : Int, 0 ≤ c' → c' < c → 0 ≤ s → s < C.se → I1 (t + 28 + c'.toNat) (tgt C s) = (crsN T C c (ev0 T la)).go c' (tgt C s)) →
      Wk l E (qmo E 3 n 0 0 (qV n sh (fun I' L' R' => L' = L ∧ R' = R ∧ evP I I' t T C la))) mX4_evening 0 0 22 [(0, .ref t), (1, .int (zI (c : Int)))] [] (n, sh, I1, L, R) := by
    refine up_ind C.co.toNat ?_ ?_
    · rintro I1 ⟨i1, i2, i3, i4⟩
      have hco := (hsC.fv i1 hok).2.2.1
      refine wk_iload_n (i := 1) (q := 23) dX4_evening_22 rfl rfl rfl ?_
      refine wk_aload_n (i := 0) (q := 24) dX4_evening_23 rfl rfl rfl ?_
      refine wk_getI (fi := 7) (q := 27) dX4_evening_24 rfl fl_X4_58 rfl rfl hT.1.ob ?_
      refine wk_icmp_ge (t := 73) (q := 30) dX4_evening_27 rfl rfl (by omega) (by omega) (fun hc27 => ?_) (fun hc27 => ?_)
      · refine wk_ret dX4_evening_73 rfl ⟨Nat.le_refl _, Nat.le_refl _⟩ rfl ?_
        refine ⟨_, _, _, rfl, rfl, rfl, rfl, i1, ?_, i3, fun c s c0 c1 s0 s1 => i4 c s c0 (by omega) s0 s1⟩
        rw [i2]
        unfold spc
        rw [if_neg (by omega)]
      · omega
    · rintro c hc ih I1 ⟨i1, i2, i3, i4⟩
      have hco := (hsC.fv i1 hok).2.2.1
      have inn : ∀ s : Nat, s ≤ C.se.toNat → ∀ I2 : qI, (frV I I2 t ∧ I2 t 8 = spc C c ∧ shE I2 t T (askN T C c s (crsN T C c (ev0 T la))) ∧ (∀ c' s' : Int, 0 ≤ c' → c' < c → 0 ≤ s' → s' < C.se → I2 (t + 28 + c'.toNat) (tgt C s') = (askN T C c s (crsN T C c (ev0 T la))).go c' (tgt C s')) ∧ ∀ s' : Int, 0 ≤ s' → s' < s → I2 (t + 28 + c) (tgt C s') = (askN T C c s (crsN T C c (ev0 T la))).go c (tgt C s')) →
          Wk l E (qmo E 3 n 0 0 (qV n sh (fun I' L' R' => L' = L ∧ R' = R ∧ evP I I' t T C la))) mX4_evening 0 0 32 [(0, .ref t), (1, .int (zI (c : Int))), (2, .int (zI (s : Int)))] [] (n, sh, I2, L, R) := by
        refine up_ind C.se.toNat ?_ ?_
        · rintro I2 ⟨j1, j2, j3, j4, j5⟩
          have hse := (hsC.fv j1 hok).1
          have fin : frV I (up I2 t 8 (-1)) t ∧ up I2 t 8 (-1) t 8 = spc C (c + 1 : Nat) ∧ shE (up I2 t 8 (-1)) t T (crsN T C (c + 1) (ev0 T la)) ∧ ∀ c' s : Int, 0 ≤ c' → c' < (c + 1 : Nat) → 0 ≤ s → s < C.se → up I2 t 8 (-1) (t + 28 + c'.toNat) (tgt C s) = (crsN T C (c + 1) (ev0 T la)).go c' (tgt C s) := by
            refine ⟨fun b i q0 q1 q2 q3 => ?_, ?_, ⟨fun d d0 d1 => ?_, fun g g0 g1 => ?_⟩, fun c' s c0 c1 s0 s1 => ?_⟩
            · by_cases hb : b = t
              · subst hb
                rw [up_ni _ _ (fun q => q0 ⟨rfl, q⟩)]
                exact j1 b i q0 q1 q2 q3
              · rw [up_na _ _ _ _ hb]
                exact j1 b i q0 q1 q2 q3
            · rw [up_eq]
              unfold spc
              rw [if_neg (by omega)]
            · rw [up_na _ _ _ _ (by omega)]
              exact j3.1 d d0 d1
            · rw [up_na _ _ _ _ (by omega), up_na _ _ _ _ (by omega), up_na _ _ _ _ (by omega)]
              exact j3.2 g g0 g1
            · rw [up_na _ _ _ _ (by omega)]
              by_cases hc' : c' = c
              · subst hc'
                rw [Int.toNat_natCast]
                exact j5 s s0 (by omega)
              · exact j4 c' s c0 (by omega) s0 s1
          refine wk_iload_n (i := 2) (q := 33) dX4_evening_32 rfl rfl rfl ?_
          refine wk_aload_n (i := 0) (q := 34) dX4_evening_33 rfl rfl rfl ?_
          refine wk_getI (fi := 5) (q := 37) dX4_evening_34 rfl fl_X4_52 rfl rfl hT.1.ob ?_
          refine wk_icmp_ge (t := 62) (q := 40) dX4_evening_37 rfl rfl (by omega) (by omega) (fun hc37 => ?_) (fun hc37 => ?_)
          · refine wk_aload_n (i := 0) (q := 63) dX4_evening_62 rfl rfl rfl ?_
            refine wk_iconst (q := 64) dX4_evening_63 rfl ?_
            refine wk_putI (fi := 8) (q := 67) dX4_evening_64 rfl fl_X4_33 fw_4_8 rfl rfl hT.1.ob ?_
            refine wk_iinc (lo' := [(0, _), (1, _), (2, _)]) (q := 70) dX4_evening_67 rfl rfl (by decide) rfl ?_
            refine wk_goto (t := 22) dX4_evening_70 rfl ?_
            refine wk_del (i := 2) (lo' := [(0, _), (1, _)]) rfl ?_
            exact ih _ fin
          · omega
        · rintro s hs ihs I2 ⟨j1, j2, j3, j4, j5⟩
          have hse := (hsC.fv j1 hok).1
          have hst := (hsC.fv j1 hok).2.1
          have hod := (hsC.fv j1 hok).2.2.2.1
          have hES := ((ESok.ev0 hok hLA).crs hok (C := C) c).askN hok (C := C) (c := c) s
          have hix := tgt_ix hC (s := s)
          refine wk_iload_n (i := 2) (q := 33) dX4_evening_32 rfl rfl rfl ?_
          refine wk_aload_n (i := 0) (q := 34) dX4_evening_33 rfl rfl rfl ?_
          refine wk_getI (fi := 5) (q := 37) dX4_evening_34 rfl fl_X4_52 rfl rfl hT.1.ob ?_
          refine wk_icmp_ge (t := 62) (q := 40) dX4_evening_37 rfl rfl (by omega) (by omega) (fun hc37 => ?_) (fun hc37 => ?_)
          · omega
          · refine wk_aload_n (i := 0) (q := 41) dX4_evening_40 rfl rfl rfl ?_
            refine wk_iload_n (i := 1) (q := 42) dX4_evening_41 rfl rfl rfl ?_
            refine wk_aload_n (i := 0) (q := 43) dX4_evening_42 rfl rfl rfl ?_
            refine wk_getR (fi := 1) (q := 46) dX4_evening_43 rfl fl_X4_18 rfl rfl hT.1.ob hT.1.r1 ?_
            refine wk_iload_n (i := 2) (q := 47) dX4_evening_46 rfl rfl rfl ?_
            refine wk_iald (q := 48) dX4_evening_47 rfl hT.1.s1 (by omega) ?_
            rw [hod s (by omega) (by omega)]
            refine wk_aload_n (i := 0) (q := 49) dX4_evening_48 rfl rfl rfl ?_
            refine wk_iload_n (i := 2) (q := 50) dX4_evening_49 rfl rfl rfl ?_
            refine wk_cP1 (q := 53) dX4_evening_50 rfl vl_X4_100 ⟨_, _, rfl⟩ hT.1.ob (ct_X4_askedFor hT (by omega) (by omega) (by omega)) (qRo_m ok_X4_askedFor (by decide) (Nat.le_refl _) (Nat.le_refl _)) (Nat.le_of_ble_eq_true rfl) (fun v50 hv50 => ?_)
            rw [hse, hst, hod _ hix.1 hix.2] at hv50
            subst hv50
            refine wk_cV3 (q := 56) dX4_evening_53 rfl vl_X4_103 ⟨_, _, rfl⟩ hT.1.ob (ct_X4_ask (s := s) (c := c) hT hot hok hC (hsT.fv hot j1 hok) (hsC.fv j1 hok) j3 hES.2 hES.1 (by omega) (od_in hC (by omega) (by omega)) (tgt_in hC s) j2) (qRo_m ok_X4_ask (by decide) (Nat.le_refl _) (Nat.le_refl _)) (Nat.le_of_ble_eq_true rfl) (fun I53 L53 R53 hv53 => ?_)
            obtain ⟨rfl, rfl, k1, k2, k3, k4⟩ := hv53
            refine wk_iinc (lo' := [(0, _), (1, _), (2, _)]) (q := 59) dX4_evening_56 rfl rfl (by decide) rfl ?_
            refine wk_goto (t := 32) dX4_evening_59 rfl ?_
            refine ihs I53 ⟨j1.tr k1.v, ?_, k2, fun c' s' c0 c1 s0 s1 => ?_, fun s' s0 s1 => ?_⟩
            · rw [k1 _ _ (by omega) (by omega) (by omega)]
              exact j2
            · rw [k4 _ _ (by omega) (by omega) (by omega)]
              show _ = u2 (askN T C c s (crsN T C c (ev0 T la))).go c (tgt C s) _ c' (tgt C s')
              rw [u2_ne (Or.inl (by omega))]
              exact j4 c' s' c0 c1 s0 s1
            · show _ = u2 (askN T C c s (crsN T C c (ev0 T la))).go c (tgt C s) (askD T C c s (askN T C c s (crsN T C c (ev0 T la)))) c (tgt C s')
              by_cases hg : tgt C s' = tgt C s
              · rw [hg, u2_eq, ← k3, Int.toNat_natCast]
              · have hne : s' ≠ s := fun q => hg (by rw [q])
                rw [u2_ne (Or.inr hg), k4 _ _ (by omega) (by omega) (fun q => hg q.2)]
                exact j5 s' s0 (by omega)
      have inn0 := inn 0 (Nat.zero_le _) I1 ⟨i1, i2, i3, i4, fun s' s0 s1 => by omega⟩
      refine wk_iload_n (i := 1) (q := 23) dX4_evening_22 rfl rfl rfl ?_
      refine wk_aload_n (i := 0) (q := 24) dX4_evening_23 rfl rfl rfl ?_
      refine wk_getI (fi := 7) (q := 27) dX4_evening_24 rfl fl_X4_58 rfl rfl hT.1.ob ?_
      refine wk_icmp_ge (t := 73) (q := 30) dX4_evening_27 rfl rfl (by omega) (by omega) (fun hc27 => ?_) (fun hc27 => ?_)
      · omega
      · refine wk_iconst (q := 31) dX4_evening_30 rfl ?_
        refine wk_istore_n (i := 2) (lo' := [(0, _), (1, _), (2, _)]) (q := 32) dX4_evening_31 rfl rfl (by decide) rfl ?_
        exact inn0
  refine Ct.of (lo := [(0, _)]) ok_X4_evening (Nat.le_of_ble_eq_true rfl) rfl ?_
  refine wk_aload_n (i := 0) (q := 1) dX4_evening_0 rfl rfl rfl ?_
  refine wk_cV0 (q := 4) dX4_evening_1 rfl vl_X4_97 ⟨_, _, rfl⟩ hT.1.ob (ct_X4_layOut hT) (qRo_m ok_X4_layOut (by decide) (Nat.le_refl _) (Nat.le_refl _)) (Nat.le_of_ble_eq_true rfl) (fun I1 L1 R1 hv1 => ?_)
  obtain ⟨rfl, rfl, rfl⟩ := hv1
  refine wk_aload_n (i := 0) (q := 5) dX4_evening_4 rfl rfl rfl ?_
  refine wk_getR (fi := 11) (q := 8) dX4_evening_5 rfl fl_X4_43 rfl rfl hT.1.ob hT.1.r11 ?_
  refine wk_iconst (q := 9) dX4_evening_8 rfl ?_
  refine wk_sV2 (q := 12) dX4_evening_9 rfl sl_X4_74 (ct_fillI hT.1.s11) (qRo_m ok_J7_fill_53178 (by decide) (Nat.le_refl _) (Nat.le_refl _)) (Nat.le_of_ble_eq_true rfl) (fun I9 L9 R9 hv9 => ?_)
  obtain ⟨rfl, rfl, rfl⟩ := hv9
  refine wk_aload_n (i := 0) (q := 13) dX4_evening_12 rfl rfl rfl ?_
  refine wk_getR (fi := 12) (q := 16) dX4_evening_13 rfl fl_X4_46 rfl rfl hT.1.ob hT.1.r12 ?_
  refine wk_iconst (q := 17) dX4_evening_16 rfl ?_
  refine wk_sV2 (q := 20) dX4_evening_17 rfl sl_X4_74 (ct_fillI hT.1.s12) (qRo_m ok_J7_fill_53178 (by decide) (Nat.le_refl _) (Nat.le_refl _)) (Nat.le_of_ble_eq_true rfl) (fun I17 L17 R17 hv17 => ?_)
  obtain ⟨rfl, rfl, rfl⟩ := hv17
  refine wk_iconst (q := 21) dX4_evening_20 rfl ?_
  refine wk_istore_n (i := 1) (lo' := [(0, _), (1, _)]) (q := 22) dX4_evening_21 rfl rfl (by decide) rfl ?_
  refine out 0 (Nat.zero_le _) _ ⟨fun b i q0 q1 q2 q3 => ?_, ?_, ⟨fun d d0 d1 => ?_, fun g g0 g1 => ⟨?_, ?_, ?_⟩⟩, fun c' s c0 c1 => by omega⟩
  · rw [fillI_ne _ _ _ (by omega), fillI_ne _ _ _ (by omega)]
    unfold cpI
    rw [if_neg (by omega)]
  · rw [fillI_ne _ _ _ (by omega), fillI_ne _ _ _ (by omega)]
    unfold cpI
    rw [if_neg (by omega)]
    exact hsp
  · rw [fillI_ne _ _ _ (by omega), fillI_ne _ _ _ (by omega)]
    unfold cpI
    rw [if_pos ⟨rfl, by omega, by omega⟩, show (0 : Int) + (d - 0) = d by omega]
    exact (hsT.2.2.1 d d0 d1).1
  · rw [fillI_ne _ _ _ (by omega), fillI_ne _ _ _ (by omega)]
    unfold cpI
    rw [if_neg (by omega)]
    exact hla g g0 g1
  · rw [fillI_ne _ _ _ (by omega), fillI_in (by omega)]
    rfl
  · rw [fillI_in (by omega)]
    rfl
end EVE
