/-! the class's spite -/
section SPITE2
variable {l : Launch} {E : qEv} {n : Nat} {sh : qSh} {I L : qI} {R : qR}
/-- how trial and the twin stand behind e evenings -/
def spP (I : qI) (x : Nat) (V : VV) (g : Int) (e : Nat) : Prop := (shC I (x + 68) V.T V.C ∧ I (x + 68) 8 = -1 ∧ ∀ g', 0 ≤ g' → g' < V.T.ng → I (x + 68 + 17) g' = laA V e g') ∧ shC I (x + 106) V.T V.C ∧ I (x + 106) 8 = (spC V g e).sp ∧ ∀ g', 0 ≤ g' → g' < V.T.ng → I (x + 106 + 17) g' = laB V g e g'
theorem oc_spite {x : Nat} {V : VV} {g w : Int} (h : CI E.2.2 n sh x I L R V) (hg : in32 g) (hw : in32 w) :
    Ct l E 4 mX6_spite [.ref x, .int (zI g), .int (zI w)] (n, sh, I, L, R) 0 0 (qZ n sh (cpZ E.2.2 n sh x I R (r_spite V g w) V)) := by
  obtain ⟨o, dr, w1, w2, w3, hh⟩ := id h
  obtain ⟨hX, hod, hok, h10, h11, h12, hS, hT, hB, hC⟩ := id hh
  have hng := hok.ng
  have e7 := hT.1.2.1
  have loop : (0 ≤ g ∧ g < V.T.ng) → (w = 0 ∨ w = 1) → ∀ e : Nat, e ≤ 200 → ∀ (I1 : qI) (R1 : qR), CI0 E.2.2 n sh x I1 L R1 V o dr w1 o o → frO I I1 x 167 → frO R R1 x 167 → spP I1 x V g e → spS V g e = -1 → Wk l E (qmo E 4 n 0 0 (qZ n sh (cpZ E.2.2 n sh x I R (r_spite V g w) V))) mX6_spite 0 0 56
      [(0, .ref x), (1, .int (zI g)), (2, .int (zI w)), (3, .int (zI (backN V g e))), (4, .int (zI (e : Int)))] [] (n, sh, I1, L, R1) := by
    intro hgg hw2
    obtain ⟨t1, t2, t3⟩ := hok.tab (by omega)
    have hbk := backN_in t2.1 (g := g)
    refine up_ind 200 ?_ ?_
    · rintro I1 R1 hh f1 f2 f3 f4
      have hX := hh.1
      have q := hbk 200 (by omega)
      refine wk_iload (i := 4) (q := 58) dX6_spite_56 rfl rfl ?_
      refine wk_sipush (q := 61) dX6_spite_58 rfl (by decide +kernel) ?_
      refine wk_icmp_ge (t := 128) (q := 64) dX6_spite_61 rfl rfl (by omega) (by omega) (fun hc61 => ?_) (fun hc61 => ?_)
      · refine wk_iload_n (i := 2) (q := 129) dX6_spite_128 rfl rfl rfl ?_
        refine wk_if_ne (t := 137) (q := 132) dX6_spite_129 rfl rfl (by omega) (fun hc129 => ?_) (fun hc129 => ?_)
        · refine wk_iload_n (i := 3) (q := 138) dX6_spite_137 rfl rfl rfl ?_
          refine wk_iret dX6_spite_138 rfl ⟨Nat.le_refl _, Nat.le_refl _⟩ rfl ?_
          refine ⟨_, _, _, _, rfl, rfl, ?_, hh.ci, f1, f2⟩
          unfold r_spite
          rw [if_neg (by omega), if_neg (by omega)]
          first
            | rw [if_pos hc129, if_pos f4]
            | rw [if_neg hc129, if_pos f4]
        · refine wk_bipush (q := 134) dX6_spite_132 rfl (by decide +kernel) ?_
          refine wk_goto (t := 138) dX6_spite_134 rfl ?_
          refine wk_iret dX6_spite_138 rfl ⟨Nat.le_refl _, Nat.le_refl _⟩ rfl ?_
          refine ⟨_, _, _, _, rfl, rfl, ?_, hh.ci, f1, f2⟩
          unfold r_spite
          rw [if_neg (by omega), if_neg (by omega)]
          first
            | rw [if_pos hc129, if_pos f4]
            | rw [if_neg hc129, if_pos f4]
      · omega
    · rintro e he ih I1 R1 hh f1 f2 ⟨⟨s1, s2, s3⟩, s4, s5, s6⟩ f4
      have hX := hh.1
      have hot := hh.otx
      have q := hbk e (by omega)
      have q1 := hbk (e + 1) (by omega)
      have lA := laA_ok t1 t3 e
      have lB := laB_ok t1 t3 g e
      have lA1 := laA_ok t1 t3 (e + 1)
      have lB1 := laB_ok t1 t3 g (e + 1)
      have okB := spC_ok t2.1 (g := g) (by omega) e
      have shB : ∀ I' : qI, shC I' (x + 106) V.T V.C → shC I' (x + 106) V.T (spC V g e) := fun I' z => by
        unfold spC
        split
        · exact z
        · exact z
      have bk1 : backN V g (e + 1) = if backN V g e = -9 then wseN V g e V.C.co.toNat else backN V g e := rfl
      have done : smM V g e → spS V g 200 = e := fun q => spS_at f4 q 200 (by omega)
      have next : ¬ smM V g e → ∀ I2 : qI, CI0 E.2.2 n sh x I2 L R1 V o dr w1 o o → frO I I2 x 167 → spP I2 x V g (e + 1) → ∀ b : Int, b = backN V g (e + 1) → Wk l E (qmo E 4 n 0 0 (qZ n sh (cpZ E.2.2 n sh x I R (r_spite V g w) V))) mX6_spite 0 0 56
          [(0, .ref x), (1, .int (zI g)), (2, .int (zI w)), (3, .int (zI b)), (4, .int (zI ((e : Int) + 1)))] [] (n, sh, I2, L, R1) := by
        rintro q I2 a1 a2 a3 b rfl
        exact ih I2 R1 a1 a2 f2 a3 (spS_go f4 q)
      refine wk_iload (i := 4) (q := 58) dX6_spite_56 rfl rfl ?_
      refine wk_sipush (q := 61) dX6_spite_58 rfl (by decide +kernel) ?_
      refine wk_icmp_ge (t := 128) (q := 64) dX6_spite_61 rfl rfl (by omega) (by omega) (fun hc61 => ?_) (fun hc61 => ?_)
      · omega
      · refine wk_aload_n (i := 0) (q := 65) dX6_spite_64 rfl rfl rfl ?_
        refine wk_getR (fi := 4) (q := 68) dX6_spite_65 rfl fl_X6_34 rfl rfl hX.ob hX.r4 ?_
        refine wk_cV0 (q := 71) dX6_spite_68 rfl vl_X6_145 ⟨_, _, rfl⟩ hX.t4.1.ob (ct_eveT hh t1 t2.1 s1 s3 lA.ok (s2.trans t2.2.2.2.1.symm)) (qRo_m ok_X4_evening (by decide) (Nat.le_refl _) (Nat.le_refl _)) (Nat.le_of_ble_eq_true rfl) (fun I68 L68 R68 hv68 => ?_)
        obtain ⟨rfl, rfl, h2, y1, y2⟩ := hv68
        have hX := h2.1
        have y3 := y2.1
        refine wk_aload_n (i := 0) (q := 72) dX6_spite_71 rfl rfl rfl ?_
        refine wk_getR (fi := 5) (q := 75) dX6_spite_72 rfl fl_X6_37 rfl rfl hX.ob hX.r5 ?_
        refine wk_cV0 (q := 78) dX6_spite_75 rfl vl_X6_145 ⟨_, _, rfl⟩ hX.t5.1.ob (ct_eveW h2 t1 okB (shB _ (s4.cg hng.2.1 (fun b i _ => y1 b i (by omega)))) (fun g' g0 g1 => by rw [y1 _ _ (by omega)]; exact s6 g' g0 g1) lB.ok (by rw [y1 _ _ (by omega)]; exact s5)) (qRo_m ok_X4_evening (by decide) (Nat.le_refl _) (Nat.le_refl _)) (Nat.le_of_ble_eq_true rfl) (fun I75 L75 R75 hv75 => ?_)
        obtain ⟨rfl, rfl, h3, z1, z2⟩ := hv75
        have hX := h3.1
        have z3 := z2.1
        have gA : ∀ c, 0 ≤ c → c < V.C.co → I75 (x + 68 + 28 + c.toNat) g = goA V g e c := fun c c0 c1 => by
          obtain ⟨s, s0, s1', e1⟩ := t2.all hgg.1 hgg.2
          have co8 := t2.1.2.2.2.2.2.1
          rw [z1 _ _ (by omega)]
          have := y2.2.2.2 c s c0 c1 s0 s1'
          rw [e1] at this
          exact this
        have gB : ∀ c, 0 ≤ c → c < V.C.co → I75 (x + 106 + 28 + c.toNat) g = goB V g e c := fun c c0 c1 => by
          obtain ⟨s, s0, s1', e1⟩ := t2.all hgg.1 hgg.2
          have eco : (spC V g e).co = V.C.co := by
            unfold spC
            split
            · rfl
            · rfl
          have ese : (spC V g e).se = V.C.se := by
            unfold spC
            split
            · rfl
            · rfl
          have etg : tgt (spC V g e) s = tgt V.C s := by
            unfold spC
            split
            · rfl
            · rfl
          have := z2.2.2.2 c s c0 (by omega) s0 (by omega)
          rw [etg, e1] at this
          exact this
        have mA : ∀ g', 0 ≤ g' → g' < V.T.ng → I75 (x + 68 + 17) g' = laA V (e + 1) g' ∧ -9 ≤ laA V (e + 1) g' ∧ laA V (e + 1) g' < 6 := fun g' g0 g1 => by
          have := lA1 g' g0 g1
          rw [z1 _ _ (by omega)]
          exact ⟨(y2.2.2.1.2 g' g0 g1).1, by omega, by omega⟩
        have mB : ∀ g', 0 ≤ g' → g' < V.T.ng → I75 (x + 106 + 17) g' = laB V g (e + 1) g' ∧ -9 ≤ laB V g (e + 1) g' ∧ laB V g (e + 1) g' < 6 := fun g' g0 g1 => by
          have := lB1 g' g0 g1
          exact ⟨(z2.2.2.1.2 g' g0 g1).1, by omega, by omega⟩
        have e7' := h3.2.2.2.2.2.2.2.1.1.2.1
        have fI : frO I I75 x 167 := fun b i q => by rw [z1 b i (by omega), y1 b i (by omega)]; exact f1 b i q
        have sp1 : spP I75 x V g (e + 1) := by
          refine ⟨⟨?_, ?_, fun g' g0 g1 => (mA g' g0 g1).1⟩, ?_, ?_, fun g' g0 g1 => (mB g' g0 g1).1⟩
          · exact ((s1.fv y3 t1).cg hng.2.1 (fun b i _ => z1 b i (by omega)))
          · rw [z1 _ _ (by omega)]
            exact y2.2.1
          · exact (s4.cg (I' := I68) hng.2.1 (fun b i _ => y1 b i (by omega))).fv z3 t1
          · rw [z2.2.1]
            have : (spC V g (e + 1)).sp = V.C.sp := rfl
            rw [this]
            exact t2.2.2.2.1.symm
        have k1 := memK_in (ng := V.T.ng.toNat) (la := laA V (e + 1)) (fun g' g0 g1 => ⟨(mA g' g0 (by omega)).2.1, (mA g' g0 (by omega)).2.2⟩) V.T.ng.toNat (Nat.le_refl _)
        have k2 := memK_in (ng := V.T.ng.toNat) (la := laB V g (e + 1)) (fun g' g0 g1 => ⟨(mB g' g0 (by omega)).2.1, (mB g' g0 (by omega)).2.2⟩) V.T.ng.toNat (Nat.le_refl _)
        have k3 : ((8 ^ V.T.ng.toNat : Nat) : Int) ≤ ((8 ^ 7 : Nat) : Int) := Int.ofNat_le.mpr (Nat.pow_le_pow_right (by omega) (by omega))
        have k4 : ((8 ^ 7 : Nat) : Int) = 2097152 := by decide
        have k5 : (8 : Int) ^ V.T.ng.toNat = ((8 ^ V.T.ng.toNat : Nat) : Int) := by rw [Int.natCast_pow]; rfl
        rw [k5] at k1 k2
        refine wk_iload_n (i := 3) (q := 79) dX6_spite_78 rfl rfl rfl ?_
        refine wk_bipush (q := 81) dX6_spite_79 rfl (by decide +kernel) ?_
        refine wk_icmp_ne (t := 92) (q := 84) dX6_spite_81 rfl rfl (by omega) (by omega) (fun hc81 => ?_) (fun hc81 => ?_)
        · refine wk_aload_n (i := 0) (q := 93) dX6_spite_92 rfl rfl rfl ?_
          refine wk_getR (fi := 4) (q := 96) dX6_spite_93 rfl fl_X6_34 rfl rfl hX.ob hX.r4 ?_
          refine wk_cP0 (q := 99) dX6_spite_96 rfl vl_X6_232 ⟨_, _, rfl⟩ hX.t4.1.ob (ct_X4_memory hX.t4 e7' (by omega) mA) (qRo_m ok_X4_memory (by decide) (Nat.le_refl _) (Nat.le_refl _)) (Nat.le_of_ble_eq_true rfl) (fun v96 hv96 => ?_)
          refine wk_aload_n (i := 0) (q := 100) dX6_spite_99 rfl rfl rfl ?_
          refine wk_getR (fi := 5) (q := 103) dX6_spite_100 rfl fl_X6_37 rfl rfl hX.ob hX.r5 ?_
          refine wk_cP0 (q := 106) dX6_spite_103 rfl vl_X6_232 ⟨_, _, rfl⟩ hX.t5.1.ob (ct_X4_memory hX.t5 e7' (by omega) mB) (qRo_m ok_X4_memory (by decide) (Nat.le_refl _) (Nat.le_refl _)) (Nat.le_of_ble_eq_true rfl) (fun v103 hv103 => ?_)
          refine wk_icmp_ne (t := 122) (q := 109) dX6_spite_106 rfl rfl (by omega) (by omega) (fun hc106 => ?_) (fun hc106 => ?_)
          · refine wk_iinc (lo' := [(0, _), (1, _), (2, _), (3, _), (4, _)]) (q := 125) dX6_spite_122 rfl rfl (by decide) rfl ?_
            refine wk_goto (t := 56) dX6_spite_125 rfl ?_
            have hsm : ¬ smM V g e := fun z => hc106 (by rw [hv96, hv103]; exact z)
            first
              | exact next hsm _ h3 fI sp1 _ hb88
              | exact next hsm _ h3 fI sp1 _ (by rw [bk1, if_neg hc81])
          · refine wk_iload_n (i := 2) (q := 110) dX6_spite_109 rfl rfl rfl ?_
            refine wk_if_ne (t := 120) (q := 113) dX6_spite_110 rfl rfl (by omega) (fun hc110 => ?_) (fun hc110 => ?_)
            · refine wk_iload_n (i := 3) (q := 121) dX6_spite_120 rfl rfl rfl ?_
              refine wk_iret dX6_spite_121 rfl ⟨Nat.le_refl _, Nat.le_refl _⟩ rfl ?_
              have hsm : smM V g e := hv96.symm.trans (hc106.trans hv103)
              have hd := done hsm
              refine ⟨_, _, _, _, rfl, rfl, ?_, h3.ci, fI, f2⟩
              unfold r_spite
              rw [if_neg (by omega), if_neg (by omega), hd]
              first
                | rw [if_pos hc110, if_neg (by omega)]
                | (rw [if_neg hc110, if_neg (by omega), show ((e : Int) + 1).toNat = e + 1 by omega]
                   first
                     | exact hb88
                     | rw [bk1, if_neg hc81])
            · refine wk_iload (i := 4) (q := 115) dX6_spite_113 rfl rfl ?_
              refine wk_iconst (q := 116) dX6_spite_115 rfl ?_
              refine wk_iadd (q := 117) dX6_spite_116 rfl ?_
              refine wk_goto (t := 121) dX6_spite_117 rfl ?_
              refine wk_iret dX6_spite_121 rfl ⟨Nat.le_refl _, Nat.le_refl _⟩ rfl ?_
              have hsm : smM V g e := hv96.symm.trans (hc106.trans hv103)
              have hd := done hsm
              refine ⟨_, _, _, _, rfl, rfl, ?_, h3.ci, fI, f2⟩
              unfold r_spite
              rw [if_neg (by omega), if_neg (by omega), hd]
              first
                | rw [if_pos hc110, if_neg (by omega)]
                | (rw [if_neg hc110, if_neg (by omega), show ((e : Int) + 1).toNat = e + 1 by omega]
                   first
                     | exact hb88
                     | rw [bk1, if_neg hc81])
        · refine wk_aload_n (i := 0) (q := 85) dX6_spite_84 rfl rfl rfl ?_
          refine wk_iload_n (i := 1) (q := 86) dX6_spite_85 rfl rfl rfl ?_
          refine wk_iload (i := 4) (q := 88) dX6_spite_86 rfl rfl ?_
          refine wk_cP2 (q := 91) dX6_spite_88 rfl vl_X6_228 ⟨_, _, rfl⟩ hX.ob (ct_X6_firstWorse h3 hgg he gA gB) (qRo_m ok_X6_firstWorse (by decide) (Nat.le_refl _) (Nat.le_refl _)) (Nat.le_of_ble_eq_true rfl) (fun v88 hv88 => ?_)
          have hb88 : v88 = backN V g (e + 1) := by rw [hv88, bk1, if_pos hc81]
          refine wk_istore_n (i := 3) (lo' := [(0, _), (1, _), (2, _), (3, _), (4, _)]) (q := 92) dX6_spite_91 rfl rfl (by decide) rfl ?_
          refine wk_aload_n (i := 0) (q := 93) dX6_spite_92 rfl rfl rfl ?_
          refine wk_getR (fi := 4) (q := 96) dX6_spite_93 rfl fl_X6_34 rfl rfl hX.ob hX.r4 ?_
          refine wk_cP0 (q := 99) dX6_spite_96 rfl vl_X6_232 ⟨_, _, rfl⟩ hX.t4.1.ob (ct_X4_memory hX.t4 e7' (by omega) mA) (qRo_m ok_X4_memory (by decide) (Nat.le_refl _) (Nat.le_refl _)) (Nat.le_of_ble_eq_true rfl) (fun v96 hv96 => ?_)
          refine wk_aload_n (i := 0) (q := 100) dX6_spite_99 rfl rfl rfl ?_
          refine wk_getR (fi := 5) (q := 103) dX6_spite_100 rfl fl_X6_37 rfl rfl hX.ob hX.r5 ?_
          refine wk_cP0 (q := 106) dX6_spite_103 rfl vl_X6_232 ⟨_, _, rfl⟩ hX.t5.1.ob (ct_X4_memory hX.t5 e7' (by omega) mB) (qRo_m ok_X4_memory (by decide) (Nat.le_refl _) (Nat.le_refl _)) (Nat.le_of_ble_eq_true rfl) (fun v103 hv103 => ?_)
          refine wk_icmp_ne (t := 122) (q := 109) dX6_spite_106 rfl rfl (by omega) (by omega) (fun hc106 => ?_) (fun hc106 => ?_)
          · refine wk_iinc (lo' := [(0, _), (1, _), (2, _), (3, _), (4, _)]) (q := 125) dX6_spite_122 rfl rfl (by decide) rfl ?_
            refine wk_goto (t := 56) dX6_spite_125 rfl ?_
            have hsm : ¬ smM V g e := fun z => hc106 (by rw [hv96, hv103]; exact z)
            first
              | exact next hsm _ h3 fI sp1 _ hb88
              | exact next hsm _ h3 fI sp1 _ (by rw [bk1, if_neg hc81])
          · refine wk_iload_n (i := 2) (q := 110) dX6_spite_109 rfl rfl rfl ?_
            refine wk_if_ne (t := 120) (q := 113) dX6_spite_110 rfl rfl (by omega) (fun hc110 => ?_) (fun hc110 => ?_)
            · refine wk_iload_n (i := 3) (q := 121) dX6_spite_120 rfl rfl rfl ?_
              refine wk_iret dX6_spite_121 rfl ⟨Nat.le_refl _, Nat.le_refl _⟩ rfl ?_
              have hsm : smM V g e := hv96.symm.trans (hc106.trans hv103)
              have hd := done hsm
              refine ⟨_, _, _, _, rfl, rfl, ?_, h3.ci, fI, f2⟩
              unfold r_spite
              rw [if_neg (by omega), if_neg (by omega), hd]
              first
                | rw [if_pos hc110, if_neg (by omega)]
                | (rw [if_neg hc110, if_neg (by omega), show ((e : Int) + 1).toNat = e + 1 by omega]
                   first
                     | exact hb88
                     | rw [bk1, if_neg hc81])
            · refine wk_iload (i := 4) (q := 115) dX6_spite_113 rfl rfl ?_
              refine wk_iconst (q := 116) dX6_spite_115 rfl ?_
              refine wk_iadd (q := 117) dX6_spite_116 rfl ?_
              refine wk_goto (t := 121) dX6_spite_117 rfl ?_
              refine wk_iret dX6_spite_121 rfl ⟨Nat.le_refl _, Nat.le_refl _⟩ rfl ?_
              have hsm : smM V g e := hv96.symm.trans (hc106.trans hv103)
              have hd := done hsm
              refine ⟨_, _, _, _, rfl, rfl, ?_, h3.ci, fI, f2⟩
              unfold r_spite
              rw [if_neg (by omega), if_neg (by omega), hd]
              first
                | rw [if_pos hc110, if_neg (by omega)]
                | (rw [if_neg hc110, if_neg (by omega), show ((e : Int) + 1).toNat = e + 1 by omega]
                   first
                     | exact hb88
                     | rw [bk1, if_neg hc81])
  refine Ct.of (lo := [(0, _), (1, _), (2, _)]) ok_X6_spite (Nat.le_of_ble_eq_true rfl) rfl ?_
  refine wk_aload_n (i := 0) (q := 1) dX6_spite_0 rfl rfl rfl ?_
  refine wk_iload_n (i := 1) (q := 2) dX6_spite_1 rfl rfl rfl ?_
  refine wk_cP1 (q := 5) dX6_spite_2 rfl vl_X6_102 ⟨_, _, rfl⟩ hX.ob (ct_X6_isGuest hX hg (by omega)) (qRo_m ok_X6_isGuest (by decide) (Nat.le_refl _) (Nat.le_refl _)) (Nat.le_of_ble_eq_true rfl) (fun v2 hv2 => ?_)
  rcases hv2 with ⟨rfl, hv2⟩ | ⟨rfl, hv2⟩
  · rw [e7] at hv2
    refine wk_if_ne (t := 10) (q := 8) dX6_spite_5 rfl rfl (by omega) (fun _ => ?_) (fun hq => absurd hq (by decide))
    refine wk_iload_n (i := 2) (q := 11) dX6_spite_10 rfl rfl rfl ?_
    refine wk_sP1 (q := 14) dX6_spite_11 rfl sl_X6_163 (ct_X6_isOneOfTwo hw) (qRo_m ok_X6_isOneOfTwo (by decide) (Nat.le_refl _) (Nat.le_refl _)) (Nat.le_of_ble_eq_true rfl) (fun v11 hv11 => ?_)
    rcases hv11 with ⟨rfl, hv11⟩ | ⟨rfl, hv11⟩
    · refine wk_if_ne (t := 20) (q := 17) dX6_spite_14 rfl rfl (by omega) (fun _ => ?_) (fun hq => absurd hq (by decide))
      refine wk_aload_n (i := 0) (q := 21) dX6_spite_20 rfl rfl rfl ?_
      refine wk_getR (fi := 4) (q := 24) dX6_spite_21 rfl fl_X6_34 rfl rfl hX.ob hX.r4 ?_
      refine wk_aload_n (i := 0) (q := 25) dX6_spite_24 rfl rfl rfl ?_
      refine wk_getR (fi := 3) (q := 28) dX6_spite_25 rfl fl_X6_30 rfl rfl hX.ob hX.r3 ?_
      refine wk_cV1 (q := 31) dX6_spite_28 rfl vl_X6_198 ⟨_, _, rfl⟩ hX.t4.1.ob (ct_tri hh (by omega)) (qRo_m ok_X4_become (by decide) (Nat.le_refl _) (Nat.le_refl _)) (Nat.le_of_ble_eq_true rfl) (fun I28 L28 R28 hv28 => ?_)
      obtain ⟨rfl, rfl, h2, f1, f2, f3, f4⟩ := hv28
      have hX := h2.1
      refine wk_aload_n (i := 0) (q := 32) dX6_spite_31 rfl rfl rfl ?_
      refine wk_getR (fi := 5) (q := 35) dX6_spite_32 rfl fl_X6_37 rfl rfl hX.ob hX.r5 ?_
      refine wk_aload_n (i := 0) (q := 36) dX6_spite_35 rfl rfl rfl ?_
      refine wk_getR (fi := 3) (q := 39) dX6_spite_36 rfl fl_X6_30 rfl rfl hX.ob hX.r3 ?_
      refine wk_cV1 (q := 42) dX6_spite_39 rfl vl_X6_198 ⟨_, _, rfl⟩ hX.t5.1.ob (ct_twi h2 (by omega)) (qRo_m ok_X4_become (by decide) (Nat.le_refl _) (Nat.le_refl _)) (Nat.le_of_ble_eq_true rfl) (fun I39 L39 R39 hv39 => ?_)
      obtain ⟨rfl, rfl, h3, g1, g2, g3, g4⟩ := hv39
      have hX := h3.1
      refine wk_aload_n (i := 0) (q := 43) dX6_spite_42 rfl rfl rfl ?_
      refine wk_getR (fi := 5) (q := 46) dX6_spite_43 rfl fl_X6_37 rfl rfl hX.ob hX.r5 ?_
      refine wk_iload_n (i := 1) (q := 47) dX6_spite_46 rfl rfl rfl ?_
      refine wk_putI (fi := 8) (q := 50) dX6_spite_47 rfl fl_X6_225 fw_4_8 rfl rfl hX.t5.1.ob ?_
      refine wk_bipush (q := 52) dX6_spite_50 rfl (by decide +kernel) ?_
      refine wk_istore_n (i := 3) (lo' := [(0, _), (1, _), (2, _), (3, _)]) (q := 53) dX6_spite_52 rfl rfl (by decide) rfl ?_
      refine wk_iconst (q := 54) dX6_spite_53 rfl ?_
      refine wk_istore (i := 4) (lo' := [(0, _), (1, _), (2, _), (3, _), (4, _)]) (q := 56) dX6_spite_54 rfl (by decide) rfl ?_
      skip
      have fy : ∀ b i, ¬ (x + 106 ≤ b ∧ b < x + 144) → up I39 (x + 106) 8 g b i = I39 b i := fun b i q => up_na _ _ _ _ (by omega)
      have h4 := h3.scr (I' := up I39 (x + 106) 8 g) h3.1 ⟨rfl, rfl, rfl, rfl, rfl, rfl, rfl⟩ (fun b i q1 q2 => fy b i (by omega)) (by rw [fy _ _ (by omega)]; exact h3.2.2.2.1) (by rw [fy _ _ (by omega)]; exact h3.2.2.2.2.1) (by rw [fy _ _ (by omega)]; exact h3.2.2.2.2.2.1)
      refine loop hv2 hv11 0 (Nat.zero_le _) _ _ h4 (fun b i q => by rw [fy _ _ (by omega), g1 b i (by omega), f1 b i (by omega)]) (fun b i q => by rw [up_na _ _ _ _ (by omega), up_na _ _ _ _ (by omega)]) ⟨⟨?_, ?_, fun g' q0 q1 => ?_⟩, ?_, ?_, fun g' q0 q1 => ?_⟩ rfl
      · exact f2.cg hng.2.1 (fun b i q => by rw [fy _ _ (by omega)]; exact g1 b i (by omega))
      · rw [fy _ _ (by omega), g1 _ _ (by omega)]
        exact f3
      · rw [fy _ _ (by omega), g1 _ _ (by omega)]
        exact f4 g' q0 q1
      · exact g2.cg hng.2.1 (fun b i q => up_off (by omega))
      · rw [up_eq]
        rfl
      · rw [up_na _ _ _ _ (by omega)]
        exact g4 g' q0 q1
    · refine wk_if_ne (t := 20) (q := 17) dX6_spite_14 rfl rfl (by omega) (fun hq => absurd hq (by decide)) (fun _ => ?_)
      refine wk_bipush (q := 19) dX6_spite_17 rfl (by decide +kernel) ?_
      refine wk_iret dX6_spite_19 rfl ⟨Nat.le_refl _, Nat.le_refl _⟩ rfl ?_
      refine cp_same h rfl ?_
      unfold r_spite
      first
        | rw [if_pos hv2]
        | rw [if_neg (fun q => q hv2), if_pos hv11]
  · rw [e7] at hv2
    refine wk_if_ne (t := 10) (q := 8) dX6_spite_5 rfl rfl (by omega) (fun hq => absurd hq (by decide)) (fun _ => ?_)
    refine wk_iconst (q := 9) dX6_spite_8 rfl ?_
    refine wk_iret dX6_spite_9 rfl ⟨Nat.le_refl _, Nat.le_refl _⟩ rfl ?_
    refine cp_same h rfl ?_
    unfold r_spite
    first
      | rw [if_pos hv2]
      | rw [if_neg (fun q => q hv2), if_pos hv11]
end SPITE2
