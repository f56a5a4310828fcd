/-! the reference's evenings: dine, gets, glad, pays -/
/-- what laying and an evening leave -/
def frN (I I' : qI) (m : Nat) : Prop := ∀ b i, ¬ (b = m ∧ (i = 28 ∨ i = 30 ∨ i = 33)) → ¬ (m + 19 ≤ b ∧ b ≤ m + 25) → I' b i = I b i
theorem frN.rf {I : qI} {m : Nat} : frN I I m := fun _ _ _ _ => rfl
theorem frN.tr {I I1 I2 : qI} {m : Nat} (h1 : frN I I1 m) (h2 : frN I1 I2 m) : frN I I2 m := fun b i q0 q1 => (h2 b i q0 q1).trans (h1 b i q0 q1)
theorem frL.n {I I' : qI} {m : Nat} (h : frL I I' m) : frN I I' m := fun b i q0 q1 => h b i q0 (by omega)
theorem frM.n {I I' : qI} {m : Nat} (h : frM I I' m) : frN I I' m := fun b i q0 q1 => h b i (by omega) (by omega) (by omega)
theorem frN.o {I I' : qI} {m : Nat} (h : frN I I' m) : frO I I' m 36 := fun b i q => h b i (by omega) (by omega)
theorem MI.fn {I I' : qI} {m : Nat} {V : VV} (h : MI I m V) (hf : frN I I' m) : MI I' m V :=
  h.fld ⟨rfl, rfl, rfl, rfl⟩ ⟨rfl, rfl, rfl, rfl⟩ (fun b i q => hf b i (by omega) (by omega)) (by rw [hf _ _ (by omega) (by omega)]; exact h.2.2.1) (by rw [hf _ _ (by omega) (by omega)]; exact h.2.2.2.1)
theorem mC.cg {I I' : qI} {m : Nat} {T : TT} {C : CC} (h : mC I m T C) (hf : ∀ b i, (b = m ∧ (i = 28 ∨ i = 30 ∨ i = 17)) ∨ b = m + 19 ∨ b = m + 21 ∨ b = m + 10 → I' b i = I b i) : mC I' m T C := by
  obtain ⟨h1, h2, h3, h4, h5⟩ := h
  refine ⟨by rw [hf _ _ (by omega)]; exact h1, by rw [hf _ _ (by omega)]; exact h2, by rw [hf _ _ (by omega)]; exact h3, fun s s0 s1 => by rw [hf _ _ (by omega)]; exact h4 s s0 s1, fun g g0 g1 => ?_⟩
  rw [hf _ _ (by omega)]
  obtain ⟨a1, a2⟩ := h5 g g0 g1
  exact ⟨a1, fun d d0 d1 w => by rw [hf _ _ (by omega)]; exact a2 d d0 d1 w⟩
/-- behind laying -/
def layP (I I' : qI) (m : Nat) (V : VV) : Prop := frL I I' m ∧ mC I' m V.T V.C ∧ (∀ g, 0 ≤ g → g < V.T.ng → I' (m + 20) g = V.la g) ∧ I' m 33 = -9
section EVE4
variable {l : Launch} {E : qEv} {n : Nat} {sh : qSh} {I L : qI} {R : qR}
theorem ct_lay {m : Nat} {V : VV} (hM : qMod E.2.2 n sh R m) (h : MI I m V) (hp : 0 < V.T.ng) :
    Ct l E 0 mX7_layNow [.ref m] (n, sh, I, L, R) 0 0 (qV n sh (fun I' L' R' => L' = L ∧ R' = R ∧ MI I' m V ∧ layP I I' m V)) := by
  obtain ⟨t1, t2, t3⟩ := h.1.tab hp
  refine (ct_X7_layNow hM t1 t2 h.2.2.2.2.2.1 (h.2.2.2.2.2.2 hp).w).mono ?_
  rintro v S' ⟨I', L', R', rfl, rfl, rfl, rfl, f1, f2, f3, f4, f5, f6⟩
  exact ⟨_, _, _, rfl, rfl, rfl, rfl, h.fn f1.n, f1, f3, f5, f6⟩
theorem mS_now {T : TT} {C : CC} (h : C.now T) : mS C = -9 := by
  unfold mS
  rw [h.2.2.2.1, if_pos (by omega)]
/-- an evening of what is laid as it stands -/
theorem ct_nightV {m : Nat} {V : VV} (hM : qMod E.2.2 n sh R m) (h : MI I m V) (hp : 0 < V.T.ng) (hC : mC I m V.T V.C) (hla : ∀ g, 0 ≤ g → g < V.T.ng → I (m + 20) g = V.la g) (hsp : I m 33 = -9) :
    Ct l E 4 mX7_goNight [.ref m] (n, sh, I, L, R) 0 0 (qV n sh (fun I' L' R' => L' = L ∧ R' = R ∧ MI I' m V ∧ mC I' m V.T V.C ∧ evM I I' m V.T V.C V.la)) := by
  obtain ⟨t1, t2, t3⟩ := h.1.tab hp
  refine (ct_X7_goNight hM t1 t2.1 h.2.2.2.2.2.1 hC hla t3.ok (hsp.trans (mS_now t2).symm)).mono ?_
  rintro v S' ⟨I', L', R', rfl, rfl, rfl, rfl, f1⟩
  exact ⟨_, _, _, rfl, rfl, rfl, rfl, h.fn f1.1.n, hC.fr f1.1, f1⟩
/-- how glad all are, behind an evening -/
theorem ct_allV {m : Nat} {T : TT} {C : CC} {e : ES} (hM : qMod E.2.2 n sh R m) (hok : T.ok) (hC : C.ok T) (hmC : mC I m T C) (hgl : ∀ g, 0 ≤ g → g < T.ng → I (m + 23) g = e.gl g) :
    Ct l E 0 mX7_allGlad [.ref m] (n, sh, I, L, R) 0 0 (qP n sh I L R (fun v => v = sumI (fun s => e.gl (C.od s)) C.se.toNat)) := by
  have h1 := hC.1
  have h2 := hC.2.1
  have h3 := hok.2.1
  have ho : ∀ s, 0 ≤ s → s < C.se → 0 ≤ I (m + 19) s ∧ I (m + 19) s < T.ng := fun s s0 s1 => by rw [hmC.2.2.2.1 s s0 s1]; exact od_in hC s0 s1
  refine (ct_X7_allGlad hM hmC.1 (by omega) (fun s s0 s1 => by have := ho s s0 s1; omega)).mono ?_
  rintro v S' ⟨v', I', L', R', rfl, rfl, rfl, rfl, rfl, hv⟩
  refine ⟨_, _, _, _, rfl, rfl, rfl, rfl, rfl, hv.trans (sumI_congr _ (fun i i0 i1 => ?_))⟩
  have := ho i i0 (by omega)
  rw [hgl _ this.1 this.2, hmC.2.2.2.1 i i0 (by omega)]
theorem om_gets {m : Nat} {V : VV} {g c : Int} (hM : qMod E.2.2 n sh R m) (h : MI I m V) (hg : in32 g) (hc : in32 c) :
    Ct l E 5 mX7_gets [.ref m, .int (zI g), .int (zI c)] (n, sh, I, L, R) 0 0 (qZ n sh (mpZ m I L R (r_gets V g c) V)) := by
  have hng := h.1.ng
  obtain ⟨e5, e6, ed, eg⟩ := h.2.2.2.2.2.1
  refine Ct.of (lo := [(0, _), (1, _), (2, _)]) ok_X7_gets (Nat.le_of_ble_eq_true rfl) rfl ?_
  refine wk_aload_n (i := 0) (q := 1) dX7_gets_0 rfl rfl rfl ?_
  refine wk_iload_n (i := 1) (q := 2) dX7_gets_1 rfl rfl rfl ?_
  refine wk_cP1 (q := 5) dX7_gets_2 rfl vl_X7_184 ⟨_, _, rfl⟩ hM.ob (ct_X7_isGuest hM hg (by omega)) (qRo_m ok_X7_isGuest (by decide) (Nat.le_refl _) (Nat.le_refl _)) (Nat.le_of_ble_eq_true rfl) (fun v2 hv2 => ?_)
  rcases hv2 with ⟨rfl, hv2⟩ | ⟨rfl, hv2⟩
  · rw [e5] at hv2
    refine wk_if_eq (t := 20) (q := 8) dX7_gets_5 rfl rfl (by omega) (fun hq => absurd hq (by decide)) (fun _ => ?_)
    refine wk_iload_n (i := 2) (q := 9) dX7_gets_8 rfl rfl rfl ?_
    refine wk_if_lt (t := 20) (q := 12) dX7_gets_9 rfl rfl (by omega) (fun hc9 => ?_) (fun hc9 => ?_)
    · refine wk_iconst (q := 21) dX7_gets_20 rfl ?_
      refine wk_iret dX7_gets_21 rfl ⟨Nat.le_refl _, Nat.le_refl _⟩ rfl ?_
      refine mp_same h rfl ?_
      unfold r_gets
      first
        | rw [if_neg (fun q => hv2 q.1)]
        | rw [if_neg (by omega)]
    · refine wk_iload_n (i := 2) (q := 13) dX7_gets_12 rfl rfl rfl ?_
      refine wk_aload_n (i := 0) (q := 14) dX7_gets_13 rfl rfl rfl ?_
      refine wk_getI (fi := 17) (q := 17) dX7_gets_14 rfl fl_X7_164 rfl rfl hM.ob ?_
      obtain ⟨t1, t2, t3⟩ := h.1.tab (by omega)
      have b1 := t2.1.2.2.2.2.1
      have b2 := t2.1.2.2.2.2.2.1
      rw [(h.2.2.2.2.2.2 (by omega)).2.1]
      refine wk_icmp_lt (t := 22) (q := 20) dX7_gets_17 rfl rfl (by omega) (by omega) (fun hc17 => ?_) (fun hc17 => ?_)
      · refine wk_aload_n (i := 0) (q := 23) dX7_gets_22 rfl rfl rfl ?_
        refine wk_cV0 (q := 26) dX7_gets_23 rfl vl_X7_224 ⟨_, _, rfl⟩ hM.ob (ct_lay hM h (by omega)) (qRo_m ok_X7_layNow (by decide) (Nat.le_refl _) (Nat.le_refl _)) (Nat.le_of_ble_eq_true rfl) (fun I23 L23 R23 hv23 => ?_)
        obtain ⟨rfl, rfl, h1, f1, f2, f3, f4⟩ := hv23
        refine wk_aload_n (i := 0) (q := 27) dX7_gets_26 rfl rfl rfl ?_
        refine wk_cV0 (q := 30) dX7_gets_27 rfl vl_X7_227 ⟨_, _, rfl⟩ hM.ob (ct_nightV hM h1 (by omega) f2 f3 f4) (qRo_m ok_X7_goNight (by decide) (Nat.le_refl _) (Nat.le_refl _)) (Nat.le_of_ble_eq_true rfl) (fun I27 L27 R27 hv27 => ?_)
        obtain ⟨rfl, rfl, h2, g1, g2⟩ := hv27
        refine wk_aload_n (i := 0) (q := 31) dX7_gets_30 rfl rfl rfl ?_
        refine wk_getR (fi := 34) (q := 34) dX7_gets_31 rfl fl_X7_73 rfl rfl hM.ob hM.r34 ?_
        refine wk_bipush (q := 36) dX7_gets_34 rfl (by decide +kernel) ?_
        refine wk_iload_n (i := 2) (q := 37) dX7_gets_36 rfl rfl rfl ?_
        refine wk_imul (q := 38) dX7_gets_37 rfl ?_
        refine wk_iload_n (i := 1) (q := 39) dX7_gets_38 rfl rfl rfl ?_
        refine wk_iadd (q := 40) dX7_gets_39 rfl ?_
        refine wk_iald (q := 41) dX7_gets_40 rfl hM.s34 (by omega) ?_
        refine wk_iret dX7_gets_41 rfl ⟨Nat.le_refl _, Nat.le_refl _⟩ rfl ?_
        refine ⟨_, _, _, _, rfl, rfl, ?_, h2, (f1.n.tr g2.1.n).o, rfl, rfl⟩
        unfold r_gets
        rw [if_pos (by omega)]
        obtain ⟨s, s0, s1, e⟩ := t2.all hv2.1 hv2.2
        have := g2.2.2.2.2 c s (by omega) (by omega) s0 s1
        rw [e] at this
        exact this
      · refine wk_iconst (q := 21) dX7_gets_20 rfl ?_
        refine wk_iret dX7_gets_21 rfl ⟨Nat.le_refl _, Nat.le_refl _⟩ rfl ?_
        refine mp_same h rfl ?_
        unfold r_gets
        first
          | rw [if_neg (fun q => hv2 q.1)]
          | rw [if_neg (by omega)]
  · rw [e5] at hv2
    refine wk_if_eq (t := 20) (q := 8) dX7_gets_5 rfl rfl (by omega) (fun _ => ?_) (fun hq => absurd hq (by decide))
    refine wk_iconst (q := 21) dX7_gets_20 rfl ?_
    refine wk_iret dX7_gets_21 rfl ⟨Nat.le_refl _, Nat.le_refl _⟩ rfl ?_
    refine mp_same h rfl ?_
    unfold r_gets
    first
      | rw [if_neg (fun q => hv2 q.1)]
      | rw [if_neg (by omega)]
theorem om_glad {m : Nat} {V : VV} {g : Int} (hM : qMod E.2.2 n sh R m) (h : MI I m V) (hg : in32 g) :
    Ct l E 5 mX7_glad [.ref m, .int (zI g)] (n, sh, I, L, R) 0 0 (qZ n sh (mpZ m I L R (r_glad V g) V)) := by
  have hng := h.1.ng
  obtain ⟨e5, e6, ed, eg⟩ := h.2.2.2.2.2.1
  refine Ct.of (lo := [(0, _), (1, _)]) ok_X7_glad (Nat.le_of_ble_eq_true rfl) rfl ?_
  refine wk_aload_n (i := 0) (q := 1) dX7_glad_0 rfl rfl rfl ?_
  refine wk_iload_n (i := 1) (q := 2) dX7_glad_1 rfl rfl rfl ?_
  refine wk_cP1 (q := 5) dX7_glad_2 rfl vl_X7_184 ⟨_, _, rfl⟩ hM.ob (ct_X7_isGuest hM hg (by omega)) (qRo_m ok_X7_isGuest (by decide) (Nat.le_refl _) (Nat.le_refl _)) (Nat.le_of_ble_eq_true rfl) (fun v2 hv2 => ?_)
  rcases hv2 with ⟨rfl, hv2⟩ | ⟨rfl, hv2⟩
  · rw [e5] at hv2
    refine wk_if_ne (t := 10) (q := 8) dX7_glad_5 rfl rfl (by omega) (fun _ => ?_) (fun hq => absurd hq (by decide))
    refine wk_aload_n (i := 0) (q := 11) dX7_glad_10 rfl rfl rfl ?_
    refine wk_cV0 (q := 14) dX7_glad_11 rfl vl_X7_224 ⟨_, _, rfl⟩ hM.ob (ct_lay hM h (by omega)) (qRo_m ok_X7_layNow (by decide) (Nat.le_refl _) (Nat.le_refl _)) (Nat.le_of_ble_eq_true rfl) (fun I11 L11 R11 hv11 => ?_)
    obtain ⟨rfl, rfl, h1, f1, f2, f3, f4⟩ := hv11
    refine wk_aload_n (i := 0) (q := 15) dX7_glad_14 rfl rfl rfl ?_
    refine wk_cV0 (q := 18) dX7_glad_15 rfl vl_X7_227 ⟨_, _, rfl⟩ hM.ob (ct_nightV hM h1 (by omega) f2 f3 f4) (qRo_m ok_X7_goNight (by decide) (Nat.le_refl _) (Nat.le_refl _)) (Nat.le_of_ble_eq_true rfl) (fun I15 L15 R15 hv15 => ?_)
    obtain ⟨rfl, rfl, h2, g1, g2⟩ := hv15
    refine wk_aload_n (i := 0) (q := 19) dX7_glad_18 rfl rfl rfl ?_
    refine wk_getR (fi := 35) (q := 22) dX7_glad_19 rfl fl_X7_76 rfl rfl hM.ob hM.r35 ?_
    refine wk_iload_n (i := 1) (q := 23) dX7_glad_22 rfl rfl rfl ?_
    refine wk_iald (q := 24) dX7_glad_23 rfl hM.s35 (by omega) ?_
    refine wk_iret dX7_glad_24 rfl ⟨Nat.le_refl _, Nat.le_refl _⟩ rfl ?_
    refine ⟨_, _, _, _, rfl, rfl, ?_, h2, (f1.n.tr g2.1.n).o, rfl, rfl⟩
    unfold r_glad
    rw [if_pos (by omega)]
    exact g2.2.2.2.1 g hv2.1 hv2.2
  · rw [e5] at hv2
    refine wk_if_ne (t := 10) (q := 8) dX7_glad_5 rfl rfl (by omega) (fun hq => absurd hq (by decide)) (fun _ => ?_)
    refine wk_iconst (q := 9) dX7_glad_8 rfl ?_
    refine wk_iret dX7_glad_9 rfl ⟨Nat.le_refl _, Nat.le_refl _⟩ rfl ?_
    refine mp_same h rfl ?_
    unfold r_glad
    rw [if_neg hv2]
theorem mp_sameJ {m : Nat} {V V' : VV} {r : Int} (h : MI I m V) (hV : V' = V) {v : Int} (hv : v = r) : ∃ v' I' L' R', some (Value.long (zL v)) = some (.long (zL v')) ∧ (n, sh, I, L, R) = (n, sh, I', L', R') ∧ mpZ m I L R r V' v' I' L' R' :=
  ⟨_, _, _, _, rfl, rfl, hv, by rw [hV]; exact h, frO.rf, rfl, rfl⟩
theorem om_pays {m : Nat} {V : VV} {g a w : Int} (hM : qMod E.2.2 n sh R m) (h : MI I m V) (hg : in32 g) (ha : in32 a) (hw : in32 w) :
    Ct l E 5 mX7_pays [.ref m, .int (zI g), .int (zI a), .int (zI w)] (n, sh, I, L, R) 0 0 (qJ n sh (mpZ m I L R (r_pays V g a w) V)) := by
  have hng := h.1.ng
  obtain ⟨e5, e6, ed, eg⟩ := h.2.2.2.2.2.1
  have p1 := fun (hp : 0 < V.T.ng) g' => evE_pa (h.1.tab hp).1 (h.1.tab hp).2.1.1 (la := V.la) g'
  have p2 := fun (hp : 0 < V.T.ng) => sumI_bd2 (N := V.T.ng) (fun g' _ _ => p1 hp g')
  have loop : (0 ≤ g ∧ g < V.T.ng) → (w = 0 ∨ w = 1) → ∀ I1 : qI, MI I1 m V → frN I I1 m → (∀ g, 0 ≤ g → g < V.T.ng → I1 (m + 24) g = (evV V).pa g) → ∀ k : Nat, k ≤ V.T.ng.toNat → Wk l E (qmo E 5 n 0 0 (qJ n sh (mpZ m I L R (r_pays V g a w) V))) mX7_pays 0 0 35
      [(0, .ref m), (1, .int (zI g)), (2, .int (zI a)), (3, .int (zI w)), (4, .long (zL (sumI (evV V).pa k))), (6, .int (zI (k : Int)))] [] (n, sh, I1, L, R) := by
    intro hgg hw2 I1 h1 f1 f2
    have e5' := h1.2.2.2.2.2.1.1
    have q2 := p2 (by omega)
    have q1 := p1 (by omega)
    unfold evV at f2 ⊢
    refine up_ind V.T.ng.toNat ?_ ?_
    · have q3 := q2 V.T.ng.toNat (by omega)
      have q4 := q1 g
      refine wk_iload (i := 6) (q := 37) dX7_pays_35 rfl rfl ?_
      refine wk_aload_n (i := 0) (q := 38) dX7_pays_37 rfl rfl rfl ?_
      refine wk_getI (fi := 5) (q := 41) dX7_pays_38 rfl fl_X7_125 rfl rfl hM.ob ?_
      refine wk_icmp_ge (t := 63) (q := 44) dX7_pays_41 rfl rfl (by omega) (by omega) (fun hc41 => ?_) (fun hc41 => ?_)
      · refine wk_iload_n (i := 2) (q := 64) dX7_pays_63 rfl rfl rfl ?_
        refine wk_if_eq (t := 81) (q := 67) dX7_pays_64 rfl rfl (by omega) (fun hc64 => ?_) (fun hc64 => ?_)
        · refine wk_aload_n (i := 0) (q := 82) dX7_pays_81 rfl rfl rfl ?_
          refine wk_getR (fi := 36) (q := 85) dX7_pays_82 rfl fl_X7_79 rfl rfl hM.ob hM.r36 ?_
          refine wk_iload_n (i := 1) (q := 86) dX7_pays_85 rfl rfl rfl ?_
          refine wk_iald (q := 87) dX7_pays_86 rfl hM.s36 (by omega) ?_
          rw [f2 g hgg.1 hgg.2]
          refine wk_i2l (q := 88) dX7_pays_87 rfl (by omega) ?_
          refine wk_lconst (z := 1) (q := 89) dX7_pays_88 rfl rfl ?_
          refine wk_iload_n (i := 3) (q := 90) dX7_pays_89 rfl rfl rfl ?_
          refine wk_sJ3 (q := 93) dX7_pays_90 rfl sl_X7_234 (ct_X7_share (by omega) (by omega) hw2) (qRo_m ok_X7_share (by decide) (Nat.le_refl _) (Nat.le_refl _)) (Nat.le_of_ble_eq_true rfl) (fun v90 I90 L90 R90 hv90 => ?_)
          obtain ⟨rfl, rfl, rfl, rfl⟩ := hv90
          refine wk_lret dX7_pays_93 rfl ⟨Nat.le_refl _, Nat.le_refl _⟩ rfl ?_
          refine ⟨_, _, _, _, rfl, rfl, ?_, h1, f1.o, rfl, rfl⟩
          unfold r_pays evV
          rw [if_pos ⟨hgg, hw2⟩]
          first
            | rw [if_pos hc64]
            | (rw [if_neg (by omega)])
        · refine wk_lload (i := 4) (q := 69) dX7_pays_67 rfl rfl ?_
          refine wk_aload_n (i := 0) (q := 70) dX7_pays_69 rfl rfl rfl ?_
          refine wk_getI (fi := 5) (q := 73) dX7_pays_70 rfl fl_X7_125 rfl rfl hM.ob ?_
          rw [e5']
          refine wk_i2l (q := 74) dX7_pays_73 rfl (by omega) ?_
          refine wk_iload_n (i := 3) (q := 75) dX7_pays_74 rfl rfl rfl ?_
          refine wk_sJ3 (q := 78) dX7_pays_75 rfl sl_X7_234 (ct_X7_share (by omega) (by omega) hw2) (qRo_m ok_X7_share (by decide) (Nat.le_refl _) (Nat.le_refl _)) (Nat.le_of_ble_eq_true rfl) (fun v75 I75 L75 R75 hv75 => ?_)
          obtain ⟨rfl, rfl, rfl, rfl⟩ := hv75
          refine wk_goto (t := 93) dX7_pays_78 rfl ?_
          refine wk_lret dX7_pays_93 rfl ⟨Nat.le_refl _, Nat.le_refl _⟩ rfl ?_
          refine ⟨_, _, _, _, rfl, rfl, ?_, h1, f1.o, rfl, rfl⟩
          unfold r_pays evV
          rw [if_pos ⟨hgg, hw2⟩]
          first
            | rw [if_pos hc64]
            | (rw [if_neg (by omega)])
      · omega
    · rintro k hk ih
      have q3 := q2 k (by omega)
      have q4 := q1 k
      have e4 := f2 k (by omega) (by omega)
      refine wk_iload (i := 6) (q := 37) dX7_pays_35 rfl rfl ?_
      refine wk_aload_n (i := 0) (q := 38) dX7_pays_37 rfl rfl rfl ?_
      refine wk_getI (fi := 5) (q := 41) dX7_pays_38 rfl fl_X7_125 rfl rfl hM.ob ?_
      refine wk_icmp_ge (t := 63) (q := 44) dX7_pays_41 rfl rfl (by omega) (by omega) (fun hc41 => ?_) (fun hc41 => ?_)
      · omega
      · refine wk_lload (i := 4) (q := 46) dX7_pays_44 rfl rfl ?_
        refine wk_aload_n (i := 0) (q := 47) dX7_pays_46 rfl rfl rfl ?_
        refine wk_getR (fi := 36) (q := 50) dX7_pays_47 rfl fl_X7_79 rfl rfl hM.ob hM.r36 ?_
        refine wk_iload (i := 6) (q := 52) dX7_pays_50 rfl rfl ?_
        refine wk_iald (q := 53) dX7_pays_52 rfl hM.s36 (by omega) ?_
        rw [e4]
        refine wk_i2l (q := 54) dX7_pays_53 rfl (by omega) ?_
        refine wk_ladd (q := 55) dX7_pays_54 rfl ?_
        refine wk_lstore (i := 4) (lo' := [(0, _), (1, _), (2, _), (3, _), (4, _), (6, _)]) (q := 57) dX7_pays_55 rfl (by decide) rfl ?_
        refine wk_iinc (lo' := [(0, _), (1, _), (2, _), (3, _), (4, _), (6, _)]) (q := 60) dX7_pays_57 rfl rfl (by decide) rfl ?_
        refine wk_goto (t := 35) dX7_pays_60 rfl ?_
        exact ih
  refine Ct.of (lo := [(0, _), (1, _), (2, _), (3, _)]) ok_X7_pays (Nat.le_of_ble_eq_true rfl) rfl ?_
  refine wk_aload_n (i := 0) (q := 1) dX7_pays_0 rfl rfl rfl ?_
  refine wk_iload_n (i := 1) (q := 2) dX7_pays_1 rfl rfl rfl ?_
  refine wk_cP1 (q := 5) dX7_pays_2 rfl vl_X7_184 ⟨_, _, rfl⟩ hM.ob (ct_X7_isGuest hM hg (by omega)) (qRo_m ok_X7_isGuest (by decide) (Nat.le_refl _) (Nat.le_refl _)) (Nat.le_of_ble_eq_true rfl) (fun v2 hv2 => ?_)
  rcases hv2 with ⟨rfl, hv2⟩ | ⟨rfl, hv2⟩
  · rw [e5] at hv2
    refine wk_if_eq (t := 17) (q := 8) dX7_pays_5 rfl rfl (by omega) (fun hq => absurd hq (by decide)) (fun _ => ?_)
    refine wk_iload_n (i := 3) (q := 9) dX7_pays_8 rfl rfl rfl ?_
    refine wk_iconst (q := 10) dX7_pays_9 rfl ?_
    refine wk_iconst (q := 11) dX7_pays_10 rfl ?_
    refine wk_sP3 (q := 14) dX7_pays_11 rfl sl_X7_121 (ct_X7_within hw (by omega) (by omega)) (qRo_m ok_X7_within (by decide) (Nat.le_refl _) (Nat.le_refl _)) (Nat.le_of_ble_eq_true rfl) (fun v11 hv11 => ?_)
    rcases hv11 with ⟨rfl, hv11⟩ | ⟨rfl, hv11⟩
    · refine wk_if_ne (t := 21) (q := 17) dX7_pays_14 rfl rfl (by omega) (fun _ => ?_) (fun hq => absurd hq (by decide))
      refine wk_aload_n (i := 0) (q := 22) dX7_pays_21 rfl rfl rfl ?_
      refine wk_cV0 (q := 25) dX7_pays_22 rfl vl_X7_224 ⟨_, _, rfl⟩ hM.ob (ct_lay hM h (by omega)) (qRo_m ok_X7_layNow (by decide) (Nat.le_refl _) (Nat.le_refl _)) (Nat.le_of_ble_eq_true rfl) (fun I22 L22 R22 hv22 => ?_)
      obtain ⟨rfl, rfl, h1, f1, f2, f3, f4⟩ := hv22
      refine wk_aload_n (i := 0) (q := 26) dX7_pays_25 rfl rfl rfl ?_
      refine wk_cV0 (q := 29) dX7_pays_26 rfl vl_X7_227 ⟨_, _, rfl⟩ hM.ob (ct_nightV hM h1 (by omega) f2 f3 f4) (qRo_m ok_X7_goNight (by decide) (Nat.le_refl _) (Nat.le_refl _)) (Nat.le_of_ble_eq_true rfl) (fun I26 L26 R26 hv26 => ?_)
      obtain ⟨rfl, rfl, h2, g1, g2⟩ := hv26
      refine wk_lconst (z := 0) (q := 30) dX7_pays_29 rfl rfl ?_
      refine wk_lstore (i := 4) (lo' := [(0, _), (1, _), (2, _), (3, _), (4, _)]) (q := 32) dX7_pays_30 rfl (by decide) rfl ?_
      refine wk_iconst (q := 33) dX7_pays_32 rfl ?_
      refine wk_istore (i := 6) (lo' := [(0, _), (1, _), (2, _), (3, _), (4, _), (6, _)]) (q := 35) dX7_pays_33 rfl (by decide) rfl ?_
      exact loop hv2 (by omega) _ h2 (f1.n.tr g2.1.n) (fun g' q0 q1 => (g2.2.2.1.2 g' q0 q1).2) 0 (Nat.zero_le _)
    · refine wk_if_ne (t := 21) (q := 17) dX7_pays_14 rfl rfl (by omega) (fun hq => absurd hq (by decide)) (fun _ => ?_)
      refine wk_ldc2 (z := (-9223372036854775808)) (q := 20) dX7_pays_17 rfl (v := (-9223372036854775808)) (qtb_in 1088 (by decide +kernel) (by decide +kernel)) rfl ?_
      refine wk_lret dX7_pays_20 rfl ⟨Nat.le_refl _, Nat.le_refl _⟩ rfl ?_
      refine mp_sameJ h rfl ?_
      unfold r_pays
      first
        | rw [if_neg (fun q => hv2 q.1)]
        | rw [if_neg (by omega)]
  · rw [e5] at hv2
    refine wk_if_eq (t := 17) (q := 8) dX7_pays_5 rfl rfl (by omega) (fun _ => ?_) (fun hq => absurd hq (by decide))
    refine wk_ldc2 (z := (-9223372036854775808)) (q := 20) dX7_pays_17 rfl (v := (-9223372036854775808)) (qtb_in 1088 (by decide +kernel) (by decide +kernel)) rfl ?_
    refine wk_lret dX7_pays_20 rfl ⟨Nat.le_refl _, Nat.le_refl _⟩ rfl ?_
    refine mp_sameJ h rfl ?_
    unfold r_pays
    first
      | rw [if_neg (fun q => hv2 q.1)]
      | rw [if_neg (by omega)]
theorem om_dine {m : Nat} {V : VV} (hM : qMod E.2.2 n sh R m) (h : MI I m V) :
    Ct l E 5 mX7_dine [.ref m] (n, sh, I, L, R) 0 0 (qZ n sh (mpZ m I L R (r_dine V) (s_dine V))) := by
  have hng := h.1.ng
  obtain ⟨e5, e6, ed, eg⟩ := h.2.2.2.2.2.1
  have loop : 0 < V.T.ng → ∀ I1 : qI, MI I1 m V → frN I I1 m → mC I1 m V.T V.C → (∀ g, 0 ≤ g → g < V.T.ng → I1 (m + 20) g = (evV V).la g ∧ I1 (m + 23) g = (evV V).gl g) → ∀ k : Nat, k ≤ V.T.ng.toNat → ∀ I2 : qI, ((∀ b i, b ≠ m + 12 → I2 b i = I1 b i) ∧ ∀ g : Int, 0 ≤ g → g < k → I2 (m + 12) g = (evV V).la g) → Wk l E (qmo E 5 n 0 0 (qZ n sh (mpZ m I L R (r_dine V) (s_dine V)))) mX7_dine 0 0 20
      [(0, .ref m), (1, .int (zI (k : Int)))] [] (n, sh, I2, L, R) := by
    intro hp I1 h1 f1 f2 f3
    obtain ⟨t1, t2, t3⟩ := h.1.tab hp
    have hs : s_dine V = (V.setNi (V.ni + 1)).setLa (evV V).la := by
      unfold s_dine
      rw [if_pos (by omega)]
    have hr : r_dine V = sumI (evV V).gl V.T.ng.toNat := by
      unfold r_dine
      rw [if_pos (by omega)]
    refine up_ind V.T.ng.toNat ?_ ?_
    · rintro I2 ⟨j1, j2⟩
      have e5' : I2 m 5 = V.T.ng := by rw [j1 _ _ (by omega)]; exact h1.2.2.2.2.2.1.1
      have en : I2 m 18 = V.ni := by rw [j1 _ _ (by omega)]; exact h1.2.1
      have hC3 : mC (up I2 m 18 (V.ni + 1)) m V.T V.C := f2.cg (fun b i q => by rw [up_off (by omega)]; exact j1 b i (by omega))
      refine wk_iload_n (i := 1) (q := 21) dX7_dine_20 rfl rfl rfl ?_
      refine wk_aload_n (i := 0) (q := 22) dX7_dine_21 rfl rfl rfl ?_
      refine wk_getI (fi := 5) (q := 25) dX7_dine_22 rfl fl_X7_125 rfl rfl hM.ob ?_
      refine wk_icmp_ge (t := 46) (q := 28) dX7_dine_25 rfl rfl (by omega) (by omega) (fun hc25 => ?_) (fun hc25 => ?_)
      · refine wk_aload_n (i := 0) (q := 47) dX7_dine_46 rfl rfl rfl ?_
        refine wk_dup (q := 48) dX7_dine_47 rfl rfl ?_
        refine wk_getI (fi := 18) (q := 51) dX7_dine_48 rfl fl_X7_167 rfl rfl hM.ob ?_
        refine wk_iconst (q := 52) dX7_dine_51 rfl ?_
        refine wk_iadd (q := 53) dX7_dine_52 rfl ?_
        refine wk_putI (fi := 18) (q := 56) dX7_dine_53 rfl fl_X7_167 fw_7_18 rfl rfl hM.ob ?_
        refine wk_aload_n (i := 0) (q := 57) dX7_dine_56 rfl rfl rfl ?_
        rw [en]
        refine wk_cP0 (q := 60) dX7_dine_57 rfl vl_X7_230 ⟨_, _, rfl⟩ hM.ob (ct_allV (e := evV V) hM t1 t2.1 hC3 (fun g g0 g1 => by rw [up_na _ _ _ _ (by omega), j1 _ _ (by omega)]; exact (f3 g g0 g1).2)) (qRo_m ok_X7_allGlad (by decide) (Nat.le_refl _) (Nat.le_refl _)) (Nat.le_of_ble_eq_true rfl) (fun v57 hv57 => ?_)
        subst hv57
        refine wk_iret dX7_dine_60 rfl ⟨Nat.le_refl _, Nat.le_refl _⟩ rfl ?_
        refine ⟨_, _, _, _, rfl, rfl, ?_, ?_, ?_, rfl, rfl⟩
        · rw [hr]
          exact evE_sum t2.1
        · rw [hs]
          have fr : ∀ b i, ¬ (b = m ∧ i = 18) → b ≠ m + 12 → up I2 m 18 (V.ni + 1) b i = I1 b i := fun b i q1 q2 => by
            rw [up_off q1]
            exact j1 b i q2
          refine ⟨⟨h1.1.1, Or.inr ⟨t1, t2, evE_la2 t1 t3⟩⟩, up_eq _ _ _ _, by rw [fr _ _ (by omega) (by omega)]; exact h1.2.2.1, by rw [fr _ _ (by omega) (by omega)]; exact h1.2.2.2.1, fun k k0 k1 => ?_, h1.2.2.2.2.2.1.cg (fun b i q => fr b i (by omega) (by omega)), fun q => ?_⟩
          · obtain ⟨a1, a2, a3⟩ := h1.2.2.2.2.1 k k0 k1
            rw [fr _ _ (by omega) (by omega), fr _ _ (by omega) (by omega)]
            exact ⟨a1, a2, fun i i0 i1 => by rw [fr _ _ (by omega) (by omega)]; exact a3 i i0 i1⟩
          · obtain ⟨n1, n2, n3, n4⟩ := h1.2.2.2.2.2.2 q
            refine ⟨by rw [fr _ _ (by omega) (by omega)]; exact n1, by rw [fr _ _ (by omega) (by omega)]; exact n2, fun s s0 s1 => by rw [fr _ _ (by omega) (by omega)]; exact n3 s s0 s1, fun g g0 g1 => ⟨?_, fun d d0 d1 => by rw [fr _ _ (by omega) (by omega)]; exact (n4 g g0 g1).2 d d0 d1⟩⟩
            rw [up_off (by omega)]
            exact j2 g g0 (by have : g < V.T.ng := g1; omega)
        · intro b i q
          rw [up_na _ _ _ _ (by omega), j1 _ _ (by omega)]
          exact f1.o b i q
      · omega
    · rintro k hk ih I2 ⟨j1, j2⟩
      have e5' : I2 m 5 = V.T.ng := by rw [j1 _ _ (by omega)]; exact h1.2.2.2.2.2.1.1
      have e20 : I2 (m + 20) k = (evV V).la k := by rw [j1 _ _ (by omega)]; exact (f3 k (by omega) (by omega)).1
      refine wk_iload_n (i := 1) (q := 21) dX7_dine_20 rfl rfl rfl ?_
      refine wk_aload_n (i := 0) (q := 22) dX7_dine_21 rfl rfl rfl ?_
      refine wk_getI (fi := 5) (q := 25) dX7_dine_22 rfl fl_X7_125 rfl rfl hM.ob ?_
      refine wk_icmp_ge (t := 46) (q := 28) dX7_dine_25 rfl rfl (by omega) (by omega) (fun hc25 => ?_) (fun hc25 => ?_)
      · omega
      · refine wk_aload_n (i := 0) (q := 29) dX7_dine_28 rfl rfl rfl ?_
        refine wk_getR (fi := 15) (q := 32) dX7_dine_29 rfl fl_X7_43 rfl rfl hM.ob hM.r15 ?_
        refine wk_iload_n (i := 1) (q := 33) dX7_dine_32 rfl rfl rfl ?_
        refine wk_aload_n (i := 0) (q := 34) dX7_dine_33 rfl rfl rfl ?_
        refine wk_getR (fi := 31) (q := 37) dX7_dine_34 rfl fl_X7_67 rfl rfl hM.ob hM.r31 ?_
        refine wk_iload_n (i := 1) (q := 38) dX7_dine_37 rfl rfl rfl ?_
        refine wk_iald (q := 39) dX7_dine_38 rfl hM.s31 (by omega) ?_
        rw [e20]
        refine wk_iast (q := 40) dX7_dine_39 rfl hM.s15 (by omega) ?_
        refine wk_iinc (lo' := [(0, _), (1, _)]) (q := 43) dX7_dine_40 rfl rfl (by decide) rfl ?_
        refine wk_goto (t := 20) dX7_dine_43 rfl ?_
        refine ih _ ⟨fun b i q => by rw [up_na _ _ _ _ q]; exact j1 b i q, fun g g0 g1 => ?_⟩
        by_cases hq : g = k
        · rw [hq, up_eq]
        · rw [up_ni _ _ hq]
          exact j2 g g0 (by omega)
  refine Ct.of (lo := [(0, _)]) ok_X7_dine (Nat.le_of_ble_eq_true rfl) rfl ?_
  refine wk_aload_n (i := 0) (q := 1) dX7_dine_0 rfl rfl rfl ?_
  refine wk_cP0 (q := 4) dX7_dine_1 rfl vl_X7_190 ⟨_, _, rfl⟩ hM.ob (ct_X7_isTable hM (by omega)) (qRo_m ok_X7_isTable (by decide) (Nat.le_refl _) (Nat.le_refl _)) (Nat.le_of_ble_eq_true rfl) (fun v1 hv1 => ?_)
  rcases hv1 with ⟨rfl, hv1⟩ | ⟨rfl, hv1⟩
  · rw [e5] at hv1
    refine wk_if_ne (t := 10) (q := 7) dX7_dine_4 rfl rfl (by omega) (fun _ => ?_) (fun hq => absurd hq (by decide))
    refine wk_aload_n (i := 0) (q := 11) dX7_dine_10 rfl rfl rfl ?_
    refine wk_cV0 (q := 14) dX7_dine_11 rfl vl_X7_224 ⟨_, _, rfl⟩ hM.ob (ct_lay hM h (by omega)) (qRo_m ok_X7_layNow (by decide) (Nat.le_refl _) (Nat.le_refl _)) (Nat.le_of_ble_eq_true rfl) (fun I11 L11 R11 hv11 => ?_)
    obtain ⟨rfl, rfl, h1, f1, f2, f3, f4⟩ := hv11
    refine wk_aload_n (i := 0) (q := 15) dX7_dine_14 rfl rfl rfl ?_
    refine wk_cV0 (q := 18) dX7_dine_15 rfl vl_X7_227 ⟨_, _, rfl⟩ hM.ob (ct_nightV hM h1 (by omega) f2 f3 f4) (qRo_m ok_X7_goNight (by decide) (Nat.le_refl _) (Nat.le_refl _)) (Nat.le_of_ble_eq_true rfl) (fun I15 L15 R15 hv15 => ?_)
    obtain ⟨rfl, rfl, h2, g1, g2⟩ := hv15
    refine wk_iconst (q := 19) dX7_dine_18 rfl ?_
    refine wk_istore_n (i := 1) (lo' := [(0, _), (1, _)]) (q := 20) dX7_dine_19 rfl rfl (by decide) rfl ?_
    exact loop (by omega) _ h2 (f1.n.tr g2.1.n) g1 (fun g' q0 q1 => ⟨(g2.2.2.1.2 g' q0 q1).1, g2.2.2.2.1 g' q0 q1⟩) 0 (Nat.zero_le _) _ ⟨fun _ _ _ => rfl, fun g g0 g1 => by omega⟩
  · rw [e5] at hv1
    refine wk_if_ne (t := 10) (q := 7) dX7_dine_4 rfl rfl (by omega) (fun hq => absurd hq (by decide)) (fun _ => ?_)
    refine wk_bipush (q := 9) dX7_dine_7 rfl (by decide +kernel) ?_
    refine wk_iret dX7_dine_9 rfl ⟨Nat.le_refl _, Nat.le_refl _⟩ rfl ?_
    refine mp_same h ?_ ?_
    · unfold s_dine
      rw [if_neg (by omega)]
    · unfold r_dine
      rw [if_neg (by omega)]
end EVE4
