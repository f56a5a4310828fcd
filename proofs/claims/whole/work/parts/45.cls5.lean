/-! the class's calls (4): copy, tell, greet, as -/
def cpOk (V : VV) (k i a j z : Int) : Prop := 0 ≤ i ∧ i ≤ V.sl k ∧ 0 ≤ z ∧ z ≤ V.sl k - i ∧ 0 ≤ j ∧ j ≤ V.sl a ∧ z ≤ V.sl a - j
def r_copy (V : VV) (k i a j z : Int) : Int := if ¬ ((0 ≤ k ∧ k < 4) ∧ 0 ≤ a ∧ a < 4) then -1 else if V.th k ≠ 1 ∨ V.th a ≠ 1 then -11 else if V.so k ≠ V.so a then -12 else if 0 ≤ i ∧ i ≤ V.sl k ∧ 0 ≤ z ∧ z ≤ V.sl k - i ∧ 0 ≤ j ∧ j ≤ V.sl a ∧ z ≤ V.sl a - j then z else -13
def s_copy (V : VV) (k i a j z : Int) : VV := if ¬ ((0 ≤ k ∧ k < 4) ∧ 0 ≤ a ∧ a < 4) then V.setFa 0 else if V.th k ≠ 1 ∨ V.th a ≠ 1 then V.setFa 1 else if V.so k ≠ V.so a then V.setFa 2 else if 0 ≤ i ∧ i ≤ V.sl k ∧ 0 ≤ z ∧ z ≤ V.sl k - i ∧ 0 ≤ j ∧ j ≤ V.sl a ∧ z ≤ V.sl a - j then (V.setFa 0).setSh V.th V.so V.sl (fun c y => if c = a ∧ j ≤ y ∧ y < j + z then V.ce k (i + (y - j)) else V.ce c y) else V.setFa 3
def tr1 (t b : Int) : Int := 31 * t + b
def r_tell (V : VV) (g : Int) : Int := if ¬ (0 ≤ g ∧ g < V.T.ng) then -1 else if V.T.kd g = 1 then V.T.kn g + 100 else if V.T.kd g = 2 then 2 * V.T.kn g + 100 else V.T.kn g
def s_tell (V : VV) (g : Int) : VV := if ¬ (0 ≤ g ∧ g < V.T.ng) then V else if V.T.kd g = 1 then V.setTr (tr1 (tr1 V.tr 2) 1) else if V.T.kd g = 2 then V.setTr (tr1 (tr1 (tr1 (tr1 V.tr 3) 2) 1) 1) else V.setTr (tr1 V.tr 1)
def r_greet (V : VV) (g : Int) : Int := if ¬ (0 ≤ g ∧ g < V.T.ng) then -1 else if V.T.kd g = 2 then 70 else g
def s_greet (V : VV) (g : Int) : VV := if ¬ (0 ≤ g ∧ g < V.T.ng) then V else if V.T.kd g = 2 then V.setTr (tr1 V.tr 5) else V.setTr (tr1 V.tr 4)
def r_as (V : VV) (g w : Int) : Int := if ¬ (0 ≤ g ∧ g < V.T.ng) then -1 else if ¬ (0 ≤ w ∧ w ≤ 2) then -2 else if V.T.kd g < w then -12 else 1
def s_as (V : VV) (g w : Int) : VV := if ¬ (0 ≤ g ∧ g < V.T.ng) then V.setFa 0 else if ¬ (0 ≤ w ∧ w ≤ 2) then V.setFa 0 else if V.T.kd g < w then V.setFa 2 else V.setFa 0
section CLS5
variable {l : Launch} {E : qEv} {n : Nat} {sh : qSh} {I L : qI} {R : qR}
theorem oc_copy {x : Nat} {V : VV} {k i a j z : Int} (h : CI E.2.2 n sh x I L R V) (hk : in32 k) (hi : in32 i) (ha : in32 a) (hj : in32 j) (hz : in32 z) :
    Ct l E 1 mX6_copy [.ref x, .int (zI k), .int (zI i), .int (zI a), .int (zI j), .int (zI z)] (n, sh, I, L, R) 0 0 (qZ n sh (cpZ E.2.2 n sh x I R (r_copy V k i a j z) (s_copy V k i a j z))) := by
  obtain ⟨o, dr, u1', u2', u3', hh⟩ := id h
  obtain ⟨hX, hod, hok, h10, h11, h12, hS, hT, hB, hC⟩ := id hh
  refine Ct.of (lo := [(0, _), (1, _), (2, _), (3, _), (4, _), (5, _)]) ok_X6_copy (Nat.le_of_ble_eq_true rfl) rfl ?_
  refine wk_aload_n (i := 0) (q := 1) dX6_copy_0 rfl rfl rfl ?_
  refine wk_iconst (q := 2) dX6_copy_1 rfl ?_
  refine wk_putI (fi := 12) (q := 5) dX6_copy_2 rfl fl_X6_246 fw_6_12 rfl rfl hX.ob ?_
  refine wk_iload_n (i := 1) (q := 6) dX6_copy_5 rfl rfl rfl ?_
  refine wk_sP1 (q := 9) dX6_copy_6 rfl sl_X6_249 (ct_X6_isSheet hk) (qRo_m ok_X6_isSheet (by decide) (Nat.le_refl _) (Nat.le_refl _)) (Nat.le_of_ble_eq_true rfl) (fun v6 hv6 => ?_)
  rcases hv6 with ⟨rfl, hv6⟩ | ⟨rfl, hv6⟩
  · refine wk_if_eq (t := 19) (q := 12) dX6_copy_9 rfl rfl (by omega) (fun hq => absurd hq (by decide)) (fun _ => ?_)
    refine wk_iload_n (i := 3) (q := 13) dX6_copy_12 rfl rfl rfl ?_
    refine wk_sP1 (q := 16) dX6_copy_13 rfl sl_X6_249 (ct_X6_isSheet ha) (qRo_m ok_X6_isSheet (by decide) (Nat.le_refl _) (Nat.le_refl _)) (Nat.le_of_ble_eq_true rfl) (fun v13 hv13 => ?_)
    rcases hv13 with ⟨rfl, hv13⟩ | ⟨rfl, hv13⟩
    · refine wk_if_ne (t := 21) (q := 19) dX6_copy_16 rfl rfl (by omega) (fun _ => ?_) (fun hq => absurd hq (by decide))
      obtain ⟨w1, w2, w3, w4, w5⟩ := hok.1 k hv6.1 hv6.2
      obtain ⟨y1, y2, y3, y4, y5⟩ := hok.1 a hv13.1 hv13.2
      obtain ⟨p1, p2, p3, p4⟩ := hS k hv6.1 hv6.2
      obtain ⟨q1, q2, q3, q4⟩ := hS a hv13.1 hv13.2
      have k3 : up I x 12 0 (x + 159 + 2 * k.toNat) 3 = V.sl k := by rw [up_na _ _ _ _ (by omega)]; exact p3
      have a3 : up I x 12 0 (x + 159 + 2 * a.toNat) 3 = V.sl a := by rw [up_na _ _ _ _ (by omega)]; exact q3
      refine wk_aload_n (i := 0) (q := 22) dX6_copy_21 rfl rfl rfl ?_
      refine wk_getR (fi := 0) (q := 25) dX6_copy_22 rfl fl_X6_13 rfl rfl hX.ob hX.r0 ?_
      refine wk_iload_n (i := 1) (q := 26) dX6_copy_25 rfl rfl rfl ?_
      refine wk_aald3 (q := 27) dX6_copy_26 rfl hX.s0 (by omega) (hX.w0 (by omega)) ?_
      refine wk_astore (i := 6) (lo' := [(0, _), (1, _), (2, _), (3, _), (4, _), (5, _), (6, _)]) (q := 29) dX6_copy_27 rfl (by decide) rfl ?_
      refine wk_aload_n (i := 0) (q := 30) dX6_copy_29 rfl rfl rfl ?_
      refine wk_getR (fi := 0) (q := 33) dX6_copy_30 rfl fl_X6_13 rfl rfl hX.ob hX.r0 ?_
      refine wk_iload_n (i := 3) (q := 34) dX6_copy_33 rfl rfl rfl ?_
      refine wk_aald3 (q := 35) dX6_copy_34 rfl hX.s0 (by omega) (hX.w0 (by omega)) ?_
      refine wk_astore (i := 7) (lo' := [(0, _), (1, _), (2, _), (3, _), (4, _), (5, _), (6, _), (7, _)]) (q := 37) dX6_copy_35 rfl (by decide) rfl ?_
      refine wk_aload (i := 6) (q := 39) dX6_copy_37 rfl rfl ?_
      refine wk_getZ (fi := 1) (q := 42) dX6_copy_39 rfl fl_X6_261 rfl rfl (hX.e0 (by omega)).ob ?_
      rw [up_na _ _ _ _ (by omega), p1]
      refine wk_if_eq (t := 53) (q := 45) dX6_copy_42 rfl rfl (by omega) (fun hc42 => ?_) (fun hc42 => ?_)
      · refine wk_aload_n (i := 0) (q := 54) dX6_copy_53 rfl rfl rfl ?_
        refine wk_iconst (q := 55) dX6_copy_54 rfl ?_
        refine wk_cZ1 (q := 58) dX6_copy_55 rfl vl_X6_255 ⟨_, _, rfl⟩ hX.ob (ct_X6_faulty hX) (qRo_m ok_X6_faulty (by decide) (Nat.le_refl _) (Nat.le_refl _)) (Nat.le_of_ble_eq_true rfl) (fun v55 I55 L55 R55 hv55 => ?_)
        obtain ⟨rfl, rfl, rfl, rfl⟩ := hv55
        rw [up2_12]
        refine wk_iret dX6_copy_58 rfl ⟨Nat.le_refl _, Nat.le_refl _⟩ rfl ?_
        refine cp_fault hh rfl ?_ ?_
        · unfold s_copy
          first
            | rw [if_pos (fun q => hv6 q.1)]
            | rw [if_pos (fun q => hv13 q.2)]
            | rw [if_neg (fun q => q ⟨hv6, hv13⟩), if_pos (by omega)]
            | rw [if_neg (fun q => q ⟨hv6, hv13⟩), if_neg (by omega), if_pos (by omega)]
            | rw [if_neg (fun q => q ⟨hv6, hv13⟩), if_neg (by omega), if_neg (by omega), if_neg (by omega)]
        · unfold r_copy
          first
            | rw [if_pos (fun q => hv6 q.1)]
            | rw [if_pos (fun q => hv13 q.2)]
            | (rw [if_neg (fun q => q ⟨hv6, hv13⟩), if_pos (by omega)]; omega)
            | (rw [if_neg (fun q => q ⟨hv6, hv13⟩), if_neg (by omega), if_pos (by omega)]; omega)
            | (rw [if_neg (fun q => q ⟨hv6, hv13⟩), if_neg (by omega), if_neg (by omega), if_neg (by omega)]; omega)
      · refine wk_aload (i := 7) (q := 47) dX6_copy_45 rfl rfl ?_
        refine wk_getZ (fi := 1) (q := 50) dX6_copy_47 rfl fl_X6_261 rfl rfl (hX.e0 (by omega)).ob ?_
        rw [up_na _ _ _ _ (by omega), q1]
        refine wk_if_ne (t := 59) (q := 53) dX6_copy_50 rfl rfl (by omega) (fun hc50 => ?_) (fun hc50 => ?_)
        · refine wk_aload (i := 6) (q := 61) dX6_copy_59 rfl rfl ?_
          refine wk_getI (fi := 2) (q := 64) dX6_copy_61 rfl fl_X6_270 rfl rfl (hX.e0 (by omega)).ob ?_
          rw [up_na _ _ _ _ (by omega), p2]
          refine wk_aload (i := 7) (q := 66) dX6_copy_64 rfl rfl ?_
          refine wk_getI (fi := 2) (q := 69) dX6_copy_66 rfl fl_X6_270 rfl rfl (hX.e0 (by omega)).ob ?_
          rw [up_na _ _ _ _ (by omega), q2]
          refine wk_icmp_eq (t := 78) (q := 72) dX6_copy_69 rfl rfl (by omega) (by omega) (fun hc69 => ?_) (fun hc69 => ?_)
          · refine wk_aload (i := 6) (q := 80) dX6_copy_78 rfl rfl ?_
            refine wk_iload_n (i := 2) (q := 81) dX6_copy_80 rfl rfl rfl ?_
            refine wk_iload (i := 5) (q := 83) dX6_copy_81 rfl rfl ?_
            refine wk_cP2 (q := 86) dX6_copy_83 rfl vl_X6_264 ⟨_, _, rfl⟩ (hX.e0 (by omega)).ob (ct_X3_holds (hX.e0 (by omega)) hi hz (by rw [k3]; omega)) (qRo_m ok_X3_holds (by decide) (Nat.le_refl _) (Nat.le_refl _)) (Nat.le_of_ble_eq_true rfl) (fun v83 hv83 => ?_)
            rcases hv83 with ⟨rfl, hv83⟩ | ⟨rfl, hv83⟩
            · rw [k3] at hv83
              refine wk_if_eq (t := 101) (q := 89) dX6_copy_86 rfl rfl (by omega) (fun hq => absurd hq (by decide)) (fun _ => ?_)
              refine wk_aload (i := 7) (q := 91) dX6_copy_89 rfl rfl ?_
              refine wk_iload (i := 4) (q := 93) dX6_copy_91 rfl rfl ?_
              refine wk_iload (i := 5) (q := 95) dX6_copy_93 rfl rfl ?_
              refine wk_cP2 (q := 98) dX6_copy_95 rfl vl_X6_264 ⟨_, _, rfl⟩ (hX.e0 (by omega)).ob (ct_X3_holds (hX.e0 (by omega)) hj hz (by rw [a3]; omega)) (qRo_m ok_X3_holds (by decide) (Nat.le_refl _) (Nat.le_refl _)) (Nat.le_of_ble_eq_true rfl) (fun v95 hv95 => ?_)
              rcases hv95 with ⟨rfl, hv95⟩ | ⟨rfl, hv95⟩
              · rw [a3] at hv95
                refine wk_if_ne (t := 107) (q := 101) dX6_copy_98 rfl rfl (by omega) (fun _ => ?_) (fun hq => absurd hq (by decide))
                refine wk_aload (i := 6) (q := 109) dX6_copy_107 rfl rfl ?_
                refine wk_getR (fi := 0) (q := 112) dX6_copy_109 rfl fl_X6_178 rfl rfl (hX.e0 (by omega)).ob (hX.e0 (by omega)).r0 ?_
                refine wk_iload_n (i := 2) (q := 113) dX6_copy_112 rfl rfl rfl ?_
                refine wk_aload (i := 7) (q := 115) dX6_copy_113 rfl rfl ?_
                refine wk_getR (fi := 0) (q := 118) dX6_copy_115 rfl fl_X6_178 rfl rfl (hX.e0 (by omega)).ob (hX.e0 (by omega)).r0 ?_
                refine wk_iload (i := 4) (q := 120) dX6_copy_118 rfl rfl ?_
                refine wk_iload (i := 5) (q := 122) dX6_copy_120 rfl rfl ?_
                refine wk_copy (q := 125) dX6_copy_122 rfl w_ac_6 (hX.e0 (by omega)).s0 (hX.e0 (by omega)).s0 (by omega) (by omega) (by omega) (Nat.le_of_ble_eq_true rfl) (Nat.le_of_ble_eq_true rfl) ?_
                refine wk_iload (i := 5) (q := 127) dX6_copy_125 rfl rfl ?_
                refine wk_iret dX6_copy_127 rfl ⟨Nat.le_refl _, Nat.le_refl _⟩ rfl ?_
                have hs : s_copy V k i a j z = (V.setFa 0).setSh V.th V.so V.sl (fun c y => if c = a ∧ j ≤ y ∧ y < j + z then V.ce k (i + (y - j)) else V.ce c y) := by
                  unfold s_copy
                  rw [if_neg (fun q => q ⟨hv6, hv13⟩), if_neg (by omega), if_neg (by omega), if_pos (by omega)]
                refine ⟨_, _, _, _, rfl, rfl, ?_, CI0.ci (o := o) (d := dr) (u1 := u1') (u2 := u2') (u3 := u3') ?_, fun c y q => by rw [cpI_ne (by omega), up_na _ _ _ _ (by omega)], frO.rf⟩
                · unfold r_copy
                  rw [if_neg (fun q => q ⟨hv6, hv13⟩), if_neg (by omega), if_neg (by omega), if_pos (by omega)]
                · rw [hs]
                  refine hh.shW ⟨rfl, rfl, rfl, rfl, rfl⟩ (fun c y q1 q2 => by rw [cpI_ne (by omega), up_off (by omega)]) (by rw [cpI_ne (by omega), up_eq]; rfl) (fun c c0 c1 => ?_) (fun c c0 c1 => ?_)
                  · obtain ⟨g1, g2, g3, g4⟩ := hS c c0 c1
                    show _ = V.th c ∧ _ = V.so c ∧ _ = V.sl c ∧ ∀ y, 0 ≤ y → y < 100 → _ = if c = a ∧ j ≤ y ∧ y < j + z then V.ce k (i + (y - j)) else V.ce c y
                    refine ⟨by rw [cpI_ne (by omega), up_na _ _ _ _ (by omega)]; exact g1, by rw [cpI_ne (by omega), up_na _ _ _ _ (by omega)]; exact g2, by rw [cpI_ne (by omega), up_na _ _ _ _ (by omega)]; exact g3, fun y y0 y1' => ?_⟩
                    unfold cpI
                    by_cases hq : c = a ∧ j ≤ y ∧ y < j + z
                    · rw [if_pos ⟨by omega, hq.2⟩, if_pos hq, up_na _ _ _ _ (by omega)]
                      exact p4 _ (by omega) (by omega)
                    · rw [if_neg (fun e => hq ⟨by omega, e.2⟩), if_neg hq, up_na _ _ _ _ (by omega)]
                      exact g4 y y0 y1'
                  · obtain ⟨g1, g2, g3, g4, g5⟩ := hok.1 c c0 c1
                    refine ⟨g1, g2, g3, g4, fun y y0 y1' => ?_⟩
                    show in32 (if c = a ∧ j ≤ y ∧ y < j + z then V.ce k (i + (y - j)) else V.ce c y)
                    split
                    · exact w5 _ (by omega) (by omega)
                    · exact g5 y y0 y1'
              · rw [a3] at hv95
                refine wk_if_ne (t := 107) (q := 101) dX6_copy_98 rfl rfl (by omega) (fun hq => absurd hq (by decide)) (fun _ => ?_)
                refine wk_aload_n (i := 0) (q := 102) dX6_copy_101 rfl rfl rfl ?_
                refine wk_iconst (q := 103) dX6_copy_102 rfl ?_
                refine wk_cZ1 (q := 106) dX6_copy_103 rfl vl_X6_255 ⟨_, _, rfl⟩ hX.ob (ct_X6_faulty hX) (qRo_m ok_X6_faulty (by decide) (Nat.le_refl _) (Nat.le_refl _)) (Nat.le_of_ble_eq_true rfl) (fun v103 I103 L103 R103 hv103 => ?_)
                obtain ⟨rfl, rfl, rfl, rfl⟩ := hv103
                rw [up2_12]
                refine wk_iret dX6_copy_106 rfl ⟨Nat.le_refl _, Nat.le_refl _⟩ rfl ?_
                refine cp_fault hh rfl ?_ ?_
                · unfold s_copy
                  first
                    | rw [if_pos (fun q => hv6 q.1)]
                    | rw [if_pos (fun q => hv13 q.2)]
                    | rw [if_neg (fun q => q ⟨hv6, hv13⟩), if_pos (by omega)]
                    | rw [if_neg (fun q => q ⟨hv6, hv13⟩), if_neg (by omega), if_pos (by omega)]
                    | rw [if_neg (fun q => q ⟨hv6, hv13⟩), if_neg (by omega), if_neg (by omega), if_neg (by omega)]
                · unfold r_copy
                  first
                    | rw [if_pos (fun q => hv6 q.1)]
                    | rw [if_pos (fun q => hv13 q.2)]
                    | (rw [if_neg (fun q => q ⟨hv6, hv13⟩), if_pos (by omega)]; omega)
                    | (rw [if_neg (fun q => q ⟨hv6, hv13⟩), if_neg (by omega), if_pos (by omega)]; omega)
                    | (rw [if_neg (fun q => q ⟨hv6, hv13⟩), if_neg (by omega), if_neg (by omega), if_neg (by omega)]; omega)
            · rw [k3] at hv83
              refine wk_if_eq (t := 101) (q := 89) dX6_copy_86 rfl rfl (by omega) (fun _ => ?_) (fun hq => absurd hq (by decide))
              refine wk_aload_n (i := 0) (q := 102) dX6_copy_101 rfl rfl rfl ?_
              refine wk_iconst (q := 103) dX6_copy_102 rfl ?_
              refine wk_cZ1 (q := 106) dX6_copy_103 rfl vl_X6_255 ⟨_, _, rfl⟩ hX.ob (ct_X6_faulty hX) (qRo_m ok_X6_faulty (by decide) (Nat.le_refl _) (Nat.le_refl _)) (Nat.le_of_ble_eq_true rfl) (fun v103 I103 L103 R103 hv103 => ?_)
              obtain ⟨rfl, rfl, rfl, rfl⟩ := hv103
              rw [up2_12]
              refine wk_iret dX6_copy_106 rfl ⟨Nat.le_refl _, Nat.le_refl _⟩ rfl ?_
              refine cp_fault hh rfl ?_ ?_
              · unfold s_copy
                first
                  | rw [if_pos (fun q => hv6 q.1)]
                  | rw [if_pos (fun q => hv13 q.2)]
                  | rw [if_neg (fun q => q ⟨hv6, hv13⟩), if_pos (by omega)]
                  | rw [if_neg (fun q => q ⟨hv6, hv13⟩), if_neg (by omega), if_pos (by omega)]
                  | rw [if_neg (fun q => q ⟨hv6, hv13⟩), if_neg (by omega), if_neg (by omega), if_neg (by omega)]
              · unfold r_copy
                first
                  | rw [if_pos (fun q => hv6 q.1)]
                  | rw [if_pos (fun q => hv13 q.2)]
                  | (rw [if_neg (fun q => q ⟨hv6, hv13⟩), if_pos (by omega)]; omega)
                  | (rw [if_neg (fun q => q ⟨hv6, hv13⟩), if_neg (by omega), if_pos (by omega)]; omega)
                  | (rw [if_neg (fun q => q ⟨hv6, hv13⟩), if_neg (by omega), if_neg (by omega), if_neg (by omega)]; omega)
          · refine wk_aload_n (i := 0) (q := 73) dX6_copy_72 rfl rfl rfl ?_
            refine wk_iconst (q := 74) dX6_copy_73 rfl ?_
            refine wk_cZ1 (q := 77) dX6_copy_74 rfl vl_X6_255 ⟨_, _, rfl⟩ hX.ob (ct_X6_faulty hX) (qRo_m ok_X6_faulty (by decide) (Nat.le_refl _) (Nat.le_refl _)) (Nat.le_of_ble_eq_true rfl) (fun v74 I74 L74 R74 hv74 => ?_)
            obtain ⟨rfl, rfl, rfl, rfl⟩ := hv74
            rw [up2_12]
            refine wk_iret dX6_copy_77 rfl ⟨Nat.le_refl _, Nat.le_refl _⟩ rfl ?_
            refine cp_fault hh rfl ?_ ?_
            · unfold s_copy
              first
                | rw [if_pos (fun q => hv6 q.1)]
                | rw [if_pos (fun q => hv13 q.2)]
                | rw [if_neg (fun q => q ⟨hv6, hv13⟩), if_pos (by omega)]
                | rw [if_neg (fun q => q ⟨hv6, hv13⟩), if_neg (by omega), if_pos (by omega)]
                | rw [if_neg (fun q => q ⟨hv6, hv13⟩), if_neg (by omega), if_neg (by omega), if_neg (by omega)]
            · unfold r_copy
              first
                | rw [if_pos (fun q => hv6 q.1)]
                | rw [if_pos (fun q => hv13 q.2)]
                | (rw [if_neg (fun q => q ⟨hv6, hv13⟩), if_pos (by omega)]; omega)
                | (rw [if_neg (fun q => q ⟨hv6, hv13⟩), if_neg (by omega), if_pos (by omega)]; omega)
                | (rw [if_neg (fun q => q ⟨hv6, hv13⟩), if_neg (by omega), if_neg (by omega), if_neg (by omega)]; omega)
        · refine wk_aload_n (i := 0) (q := 54) dX6_copy_53 rfl rfl rfl ?_
          refine wk_iconst (q := 55) dX6_copy_54 rfl ?_
          refine wk_cZ1 (q := 58) dX6_copy_55 rfl vl_X6_255 ⟨_, _, rfl⟩ hX.ob (ct_X6_faulty hX) (qRo_m ok_X6_faulty (by decide) (Nat.le_refl _) (Nat.le_refl _)) (Nat.le_of_ble_eq_true rfl) (fun v55 I55 L55 R55 hv55 => ?_)
          obtain ⟨rfl, rfl, rfl, rfl⟩ := hv55
          rw [up2_12]
          refine wk_iret dX6_copy_58 rfl ⟨Nat.le_refl _, Nat.le_refl _⟩ rfl ?_
          refine cp_fault hh rfl ?_ ?_
          · unfold s_copy
            first
              | rw [if_pos (fun q => hv6 q.1)]
              | rw [if_pos (fun q => hv13 q.2)]
              | rw [if_neg (fun q => q ⟨hv6, hv13⟩), if_pos (by omega)]
              | rw [if_neg (fun q => q ⟨hv6, hv13⟩), if_neg (by omega), if_pos (by omega)]
              | rw [if_neg (fun q => q ⟨hv6, hv13⟩), if_neg (by omega), if_neg (by omega), if_neg (by omega)]
          · unfold r_copy
            first
              | rw [if_pos (fun q => hv6 q.1)]
              | rw [if_pos (fun q => hv13 q.2)]
              | (rw [if_neg (fun q => q ⟨hv6, hv13⟩), if_pos (by omega)]; omega)
              | (rw [if_neg (fun q => q ⟨hv6, hv13⟩), if_neg (by omega), if_pos (by omega)]; omega)
              | (rw [if_neg (fun q => q ⟨hv6, hv13⟩), if_neg (by omega), if_neg (by omega), if_neg (by omega)]; omega)
    · refine wk_if_ne (t := 21) (q := 19) dX6_copy_16 rfl rfl (by omega) (fun hq => absurd hq (by decide)) (fun _ => ?_)
      refine wk_iconst (q := 20) dX6_copy_19 rfl ?_
      refine wk_iret dX6_copy_20 rfl ⟨Nat.le_refl _, Nat.le_refl _⟩ rfl ?_
      refine cp_fault hh rfl ?_ ?_
      · unfold s_copy
        first
          | rw [if_pos (fun q => hv6 q.1)]
          | rw [if_pos (fun q => hv13 q.2)]
          | rw [if_neg (fun q => q ⟨hv6, hv13⟩), if_pos (by omega)]
          | rw [if_neg (fun q => q ⟨hv6, hv13⟩), if_neg (by omega), if_pos (by omega)]
          | rw [if_neg (fun q => q ⟨hv6, hv13⟩), if_neg (by omega), if_neg (by omega), if_neg (by omega)]
      · unfold r_copy
        first
          | rw [if_pos (fun q => hv6 q.1)]
          | rw [if_pos (fun q => hv13 q.2)]
          | (rw [if_neg (fun q => q ⟨hv6, hv13⟩), if_pos (by omega)]; omega)
          | (rw [if_neg (fun q => q ⟨hv6, hv13⟩), if_neg (by omega), if_pos (by omega)]; omega)
          | (rw [if_neg (fun q => q ⟨hv6, hv13⟩), if_neg (by omega), if_neg (by omega), if_neg (by omega)]; omega)
  · refine wk_if_eq (t := 19) (q := 12) dX6_copy_9 rfl rfl (by omega) (fun _ => ?_) (fun hq => absurd hq (by decide))
    refine wk_iconst (q := 20) dX6_copy_19 rfl ?_
    refine wk_iret dX6_copy_20 rfl ⟨Nat.le_refl _, Nat.le_refl _⟩ rfl ?_
    refine cp_fault hh rfl ?_ ?_
    · unfold s_copy
      first
        | rw [if_pos (fun q => hv6 q.1)]
        | rw [if_pos (fun q => hv13 q.2)]
        | rw [if_neg (fun q => q ⟨hv6, hv13⟩), if_pos (by omega)]
        | rw [if_neg (fun q => q ⟨hv6, hv13⟩), if_neg (by omega), if_pos (by omega)]
        | rw [if_neg (fun q => q ⟨hv6, hv13⟩), if_neg (by omega), if_neg (by omega), if_neg (by omega)]
    · unfold r_copy
      first
        | rw [if_pos (fun q => hv6 q.1)]
        | rw [if_pos (fun q => hv13 q.2)]
        | (rw [if_neg (fun q => q ⟨hv6, hv13⟩), if_pos (by omega)]; omega)
        | (rw [if_neg (fun q => q ⟨hv6, hv13⟩), if_neg (by omega), if_pos (by omega)]; omega)
        | (rw [if_neg (fun q => q ⟨hv6, hv13⟩), if_neg (by omega), if_neg (by omega), if_neg (by omega)]; omega)
theorem ct_X6_leaveNumber {x o d u1 u2 u3 : Nat} {k : Int} (hX : qRA E.2.2 n sh R x o d u1 u2 u3) :
    Ct l E 0 mX6_leaveNumber [.ref x, .int (zI k)] (n, sh, I, L, R) 0 0 (qV n sh (fun I' L' R' => I' = up I x 11 (tr1 (I x 11) k) ∧ L' = L ∧ R' = R)) := by
  refine Ct.of (lo := [(0, _), (1, _)]) ok_X6_leaveNumber (Nat.le_of_ble_eq_true rfl) rfl ?_
  refine wk_aload_n (i := 0) (q := 1) dX6_leaveNumber_0 rfl rfl rfl ?_
  refine wk_bipush (q := 3) dX6_leaveNumber_1 rfl (by decide +kernel) ?_
  refine wk_aload_n (i := 0) (q := 4) dX6_leaveNumber_3 rfl rfl rfl ?_
  refine wk_getI (fi := 11) (q := 7) dX6_leaveNumber_4 rfl fl_X6_291 rfl rfl hX.ob ?_
  refine wk_imul (q := 8) dX6_leaveNumber_7 rfl ?_
  refine wk_iload_n (i := 1) (q := 9) dX6_leaveNumber_8 rfl rfl rfl ?_
  refine wk_iadd (q := 10) dX6_leaveNumber_9 rfl ?_
  refine wk_putI (fi := 11) (q := 13) dX6_leaveNumber_10 rfl fl_X6_291 fw_6_11 rfl rfl hX.ob ?_
  refine wk_ret dX6_leaveNumber_13 rfl ⟨Nat.le_refl _, Nat.le_refl _⟩ rfl ?_
  exact ⟨_, _, _, rfl, rfl, rfl, rfl, rfl⟩
theorem ct_X6_kindTells {x o d u1 u2 u3 : Nat} {g : Int} (hX : qRA E.2.2 n sh R x o d u1 u2 u3) (hne : o ≠ x ∧ o + 4 ≠ x) (hg : 0 ≤ g ∧ g < 7) :
    Ct l E 1 mX6_kindTells [.ref x, .int (zI g)] (n, sh, I, L, R) 0 0 (qZ n sh (fun v I' L' R' => v = I (o + 4) g ∧ I' = up I x 11 (tr1 (I x 11) 1) ∧ L' = L ∧ R' = R)) := by
  refine Ct.of (lo := [(0, _), (1, _)]) ok_X6_kindTells (Nat.le_of_ble_eq_true rfl) rfl ?_
  refine wk_aload_n (i := 0) (q := 1) dX6_kindTells_0 rfl rfl rfl ?_
  refine wk_iconst (q := 2) dX6_kindTells_1 rfl ?_
  refine wk_cV1 (q := 5) dX6_kindTells_2 rfl vl_X6_288 ⟨_, _, rfl⟩ hX.ob (ct_X6_leaveNumber hX) (qRo_m ok_X6_leaveNumber (by decide) (Nat.le_refl _) (Nat.le_refl _)) (Nat.le_of_ble_eq_true rfl) (fun I2 L2 R2 hv2 => ?_)
  obtain ⟨rfl, rfl, rfl⟩ := hv2
  refine wk_aload_n (i := 0) (q := 6) dX6_kindTells_5 rfl rfl rfl ?_
  refine wk_getR (fi := 1) (q := 9) dX6_kindTells_6 rfl fl_X6_20 rfl rfl hX.ob hX.r1 ?_
  refine wk_getR (fi := 3) (q := 12) dX6_kindTells_9 rfl fl_X6_108 rfl rfl hX.o1.ob hX.o1.r3 ?_
  refine wk_iload_n (i := 1) (q := 13) dX6_kindTells_12 rfl rfl rfl ?_
  refine wk_iald (q := 14) dX6_kindTells_13 rfl hX.o1.s3 (by omega) ?_
  refine wk_iret dX6_kindTells_14 rfl ⟨Nat.le_refl _, Nat.le_refl _⟩ rfl ?_
  exact ⟨_, _, _, _, rfl, rfl, up_na _ _ _ _ hne.2, rfl, rfl, rfl⟩
theorem up2_11 {x : Nat} (f g : Int) : up (up I x 11 f) x 11 g = up I x 11 g := funext fun b => funext fun j => by
  unfold up
  split <;> rfl
theorem ct_X6_cheapTells {x o d u1 u2 u3 : Nat} {g : Int} (hX : qRA E.2.2 n sh R x o d u1 u2 u3) (hne : o ≠ x ∧ o + 4 ≠ x) (hg : 0 ≤ g ∧ g < 7) :
    Ct l E 2 mX6_cheapTells [.ref x, .int (zI g)] (n, sh, I, L, R) 0 0 (qZ n sh (fun v I' L' R' => v = I (o + 4) g + 100 ∧ I' = up I x 11 (tr1 (tr1 (I x 11) 2) 1) ∧ L' = L ∧ R' = R)) := by
  refine Ct.of (lo := [(0, _), (1, _)]) ok_X6_cheapTells (Nat.le_of_ble_eq_true rfl) rfl ?_
  refine wk_aload_n (i := 0) (q := 1) dX6_cheapTells_0 rfl rfl rfl ?_
  refine wk_iconst (q := 2) dX6_cheapTells_1 rfl ?_
  refine wk_cV1 (q := 5) dX6_cheapTells_2 rfl vl_X6_288 ⟨_, _, rfl⟩ hX.ob (ct_X6_leaveNumber hX) (qRo_m ok_X6_leaveNumber (by decide) (Nat.le_refl _) (Nat.le_refl _)) (Nat.le_of_ble_eq_true rfl) (fun I2 L2 R2 hv2 => ?_)
  obtain ⟨rfl, rfl, rfl⟩ := hv2
  refine wk_aload_n (i := 0) (q := 6) dX6_cheapTells_5 rfl rfl rfl ?_
  refine wk_iload_n (i := 1) (q := 7) dX6_cheapTells_6 rfl rfl rfl ?_
  refine wk_cZ1 (q := 10) dX6_cheapTells_7 rfl vl_X6_285 ⟨_, _, rfl⟩ hX.ob (ct_X6_kindTells hX hne hg) (qRo_m ok_X6_kindTells (by decide) (Nat.le_refl _) (Nat.le_refl _)) (Nat.le_of_ble_eq_true rfl) (fun v7 I7 L7 R7 hv7 => ?_)
  obtain ⟨rfl, rfl, rfl, rfl⟩ := hv7
  rw [up2_11, up_eq, up_na _ _ _ _ hne.2]
  refine wk_bipush (q := 12) dX6_cheapTells_10 rfl (by decide +kernel) ?_
  refine wk_iadd (q := 13) dX6_cheapTells_12 rfl ?_
  refine wk_iret dX6_cheapTells_13 rfl ⟨Nat.le_refl _, Nat.le_refl _⟩ rfl ?_
  exact ⟨_, _, _, _, rfl, rfl, rfl, rfl, rfl, rfl⟩
theorem ct_X6_payerTells {x o d u1 u2 u3 : Nat} {g : Int} (hX : qRA E.2.2 n sh R x o d u1 u2 u3) (hne : o ≠ x ∧ o + 4 ≠ x) (hg : 0 ≤ g ∧ g < 7) :
    Ct l E 3 mX6_payerTells [.ref x, .int (zI g)] (n, sh, I, L, R) 0 0 (qZ n sh (fun v I' L' R' => v = I (o + 4) g + 100 + I (o + 4) g ∧ I' = up I x 11 (tr1 (tr1 (tr1 (tr1 (I x 11) 3) 2) 1) 1) ∧ L' = L ∧ R' = R)) := by
  refine Ct.of (lo := [(0, _), (1, _)]) ok_X6_payerTells (Nat.le_of_ble_eq_true rfl) rfl ?_
  refine wk_aload_n (i := 0) (q := 1) dX6_payerTells_0 rfl rfl rfl ?_
  refine wk_iconst (q := 2) dX6_payerTells_1 rfl ?_
  refine wk_cV1 (q := 5) dX6_payerTells_2 rfl vl_X6_288 ⟨_, _, rfl⟩ hX.ob (ct_X6_leaveNumber hX) (qRo_m ok_X6_leaveNumber (by decide) (Nat.le_refl _) (Nat.le_refl _)) (Nat.le_of_ble_eq_true rfl) (fun I2 L2 R2 hv2 => ?_)
  obtain ⟨rfl, rfl, rfl⟩ := hv2
  refine wk_aload_n (i := 0) (q := 6) dX6_payerTells_5 rfl rfl rfl ?_
  refine wk_iload_n (i := 1) (q := 7) dX6_payerTells_6 rfl rfl rfl ?_
  refine wk_cZ1 (q := 10) dX6_payerTells_7 rfl vl_X6_282 ⟨_, _, rfl⟩ hX.ob (ct_X6_cheapTells hX hne hg) (qRo_m ok_X6_cheapTells (by decide) (Nat.le_refl _) (Nat.le_refl _)) (Nat.le_of_ble_eq_true rfl) (fun v7 I7 L7 R7 hv7 => ?_)
  obtain ⟨rfl, rfl, rfl, rfl⟩ := hv7
  rw [up2_11, up_eq, up_na _ _ _ _ hne.2]
  refine wk_istore_n (i := 2) (lo' := [(0, _), (1, _), (2, _)]) (q := 11) dX6_payerTells_10 rfl rfl (by decide) rfl ?_
  refine wk_iload_n (i := 2) (q := 12) dX6_payerTells_11 rfl rfl rfl ?_
  refine wk_aload_n (i := 0) (q := 13) dX6_payerTells_12 rfl rfl rfl ?_
  refine wk_iload_n (i := 1) (q := 14) dX6_payerTells_13 rfl rfl rfl ?_
  refine wk_cZ1 (q := 17) dX6_payerTells_14 rfl vl_X6_285 ⟨_, _, rfl⟩ hX.ob (ct_X6_kindTells hX hne hg) (qRo_m ok_X6_kindTells (by decide) (Nat.le_refl _) (Nat.le_refl _)) (Nat.le_of_ble_eq_true rfl) (fun v14 I14 L14 R14 hv14 => ?_)
  obtain ⟨rfl, rfl, rfl, rfl⟩ := hv14
  rw [up2_11, up_eq, up_na _ _ _ _ hne.2]
  refine wk_iadd (q := 18) dX6_payerTells_17 rfl ?_
  refine wk_iret dX6_payerTells_18 rfl ⟨Nat.le_refl _, Nat.le_refl _⟩ rfl ?_
  exact ⟨_, _, _, _, rfl, rfl, rfl, rfl, rfl, rfl⟩
theorem cp_trace {b x : Nat} {V V' : VV} {o d u1 u2 u3 : Nat} (h : CI0 b n sh x I L R V o d u1 u2 u3) {r v z : Int} {I' : qI} (hI : I' = up I x 11 z) (hV : V' = V.setTr z) (hv : v = r) : ∃ v' I2 L2 R2, some (Value.int (zI v)) = some (.int (zI v')) ∧ (n, sh, I', L, R) = (n, sh, I2, L2, R2) ∧ cpZ b n sh x I R r V' v' I2 L2 R2 :=
  ⟨_, _, _, _, rfl, rfl, hv, by rw [hV, hI]; exact (h.trace z).ci, by rw [hI]; exact frO_up _ _ (by omega), frO.rf⟩
theorem oc_tell {x : Nat} {V : VV} {g : Int} (h : CI E.2.2 n sh x I L R V) (hg : in32 g) :
    Ct l E 4 mX6_tell [.ref x, .int (zI g)] (n, sh, I, L, R) 0 0 (qZ n sh (cpZ E.2.2 n sh x I R (r_tell V g) (s_tell V g))) := by
  obtain ⟨o, dr, u1', u2', u3', hh⟩ := id h
  obtain ⟨hX, hod, hok, h10, h11, h12, hS, hT, hB, hC⟩ := id hh
  have hng := hok.ng
  have e7 := hT.1.2.1
  have eg := hT.1.2.2.2
  refine Ct.of (lo := [(0, _), (1, _)]) ok_X6_tell (Nat.le_of_ble_eq_true rfl) rfl ?_
  refine wk_aload_n (i := 0) (q := 1) dX6_tell_0 rfl rfl rfl ?_
  refine wk_iload_n (i := 1) (q := 2) dX6_tell_1 rfl rfl rfl ?_
  refine wk_cP1 (q := 5) dX6_tell_2 rfl vl_X6_102 ⟨_, _, rfl⟩ hX.ob (ct_X6_isGuest hX hg (by omega)) (qRo_m ok_X6_isGuest (by decide) (Nat.le_refl _) (Nat.le_refl _)) (Nat.le_of_ble_eq_true rfl) (fun v2 hv2 => ?_)
  rcases hv2 with ⟨rfl, hv2⟩ | ⟨rfl, hv2⟩
  · rw [e7] at hv2
    refine wk_if_ne (t := 10) (q := 8) dX6_tell_5 rfl rfl (by omega) (fun _ => ?_) (fun hq => absurd hq (by decide))
    refine wk_aload_n (i := 0) (q := 11) dX6_tell_10 rfl rfl rfl ?_
    refine wk_getR (fi := 1) (q := 14) dX6_tell_11 rfl fl_X6_20 rfl rfl hX.ob hX.r1 ?_
    refine wk_getR (fi := 2) (q := 17) dX6_tell_14 rfl fl_X6_105 rfl rfl hX.o1.ob hX.o1.r2 ?_
    refine wk_iload_n (i := 1) (q := 18) dX6_tell_17 rfl rfl rfl ?_
    refine wk_iald (q := 19) dX6_tell_18 rfl hX.o1.s2 (by omega) ?_
    obtain ⟨w1, w2, -⟩ := eg g hv2.1 hv2.2
    have w3 := (hok.tab (by omega)).1.2.2.2.2.2 g hv2.1 hv2.2
    rw [w1]
    refine wk_sw2 (t1 := 50) (t2 := 44) (td := 56) dX6_tell_19 (by decide) rfl rfl rfl (by omega) (fun hs19 => ?_) (fun hs19 => ?_) (fun hs19 hs19' => ?_)
    · refine wk_aload_n (i := 0) (q := 51) dX6_tell_50 rfl rfl rfl ?_
      refine wk_iload_n (i := 1) (q := 52) dX6_tell_51 rfl rfl rfl ?_
      refine wk_cZ1 (q := 55) dX6_tell_52 rfl vl_X6_282 ⟨_, _, rfl⟩ hX.ob (ct_X6_cheapTells hX (by omega) (by omega)) (qRo_m ok_X6_cheapTells (by decide) (Nat.le_refl _) (Nat.le_refl _)) (Nat.le_of_ble_eq_true rfl) (fun v52 I52 L52 R52 hv52 => ?_)
      obtain ⟨rfl, rfl, rfl, rfl⟩ := hv52
      refine wk_iret dX6_tell_55 rfl ⟨Nat.le_refl _, Nat.le_refl _⟩ rfl ?_
      refine cp_trace hh rfl ?_ ?_
      · unfold s_tell
        rw [if_neg (fun q => q hv2), if_pos hs19, h11]
      · unfold r_tell
        rw [if_neg (fun q => q hv2), if_pos hs19]
        omega
    · refine wk_aload_n (i := 0) (q := 45) dX6_tell_44 rfl rfl rfl ?_
      refine wk_iload_n (i := 1) (q := 46) dX6_tell_45 rfl rfl rfl ?_
      refine wk_cZ1 (q := 49) dX6_tell_46 rfl vl_X6_279 ⟨_, _, rfl⟩ hX.ob (ct_X6_payerTells hX (by omega) (by omega)) (qRo_m ok_X6_payerTells (by decide) (Nat.le_refl _) (Nat.le_refl _)) (Nat.le_of_ble_eq_true rfl) (fun v46 I46 L46 R46 hv46 => ?_)
      obtain ⟨rfl, rfl, rfl, rfl⟩ := hv46
      refine wk_iret dX6_tell_49 rfl ⟨Nat.le_refl _, Nat.le_refl _⟩ rfl ?_
      refine cp_trace hh rfl ?_ ?_
      · unfold s_tell
        rw [if_neg (fun q => q hv2), if_neg (by omega), if_pos hs19, h11]
      · unfold r_tell
        rw [if_neg (fun q => q hv2), if_neg (by omega), if_pos hs19]
        omega
    · refine wk_aload_n (i := 0) (q := 57) dX6_tell_56 rfl rfl rfl ?_
      refine wk_iload_n (i := 1) (q := 58) dX6_tell_57 rfl rfl rfl ?_
      refine wk_cZ1 (q := 61) dX6_tell_58 rfl vl_X6_285 ⟨_, _, rfl⟩ hX.ob (ct_X6_kindTells hX (by omega) (by omega)) (qRo_m ok_X6_kindTells (by decide) (Nat.le_refl _) (Nat.le_refl _)) (Nat.le_of_ble_eq_true rfl) (fun v58 I58 L58 R58 hv58 => ?_)
      obtain ⟨rfl, rfl, rfl, rfl⟩ := hv58
      refine wk_iret dX6_tell_61 rfl ⟨Nat.le_refl _, Nat.le_refl _⟩ rfl ?_
      refine cp_trace hh rfl ?_ ?_
      · unfold s_tell
        rw [if_neg (fun q => q hv2), if_neg hs19, if_neg hs19', h11]
      · unfold r_tell
        rw [if_neg (fun q => q hv2), if_neg hs19, if_neg hs19']
        exact w2
  · rw [e7] at hv2
    refine wk_if_ne (t := 10) (q := 8) dX6_tell_5 rfl rfl (by omega) (fun hq => absurd hq (by decide)) (fun _ => ?_)
    refine wk_iconst (q := 9) dX6_tell_8 rfl ?_
    refine wk_iret dX6_tell_9 rfl ⟨Nat.le_refl _, Nat.le_refl _⟩ rfl ?_
    refine cp_same h ?_ ?_
    · unfold s_tell
      rw [if_pos hv2]
    · unfold r_tell
      rw [if_pos hv2]
theorem oc_greet {x : Nat} {V : VV} {g : Int} (h : CI E.2.2 n sh x I L R V) (hg : in32 g) :
    Ct l E 1 mX6_greet [.ref x, .int (zI g)] (n, sh, I, L, R) 0 0 (qZ n sh (cpZ E.2.2 n sh x I R (r_greet V g) (s_greet V g))) := by
  obtain ⟨o, dr, u1', u2', u3', hh⟩ := id h
  obtain ⟨hX, hod, hok, h10, h11, h12, hS, hT, hB, hC⟩ := id hh
  have hng := hok.ng
  have e7 := hT.1.2.1
  have eg := hT.1.2.2.2
  refine Ct.of (lo := [(0, _), (1, _)]) ok_X6_greet (Nat.le_of_ble_eq_true rfl) rfl ?_
  refine wk_aload_n (i := 0) (q := 1) dX6_greet_0 rfl rfl rfl ?_
  refine wk_iload_n (i := 1) (q := 2) dX6_greet_1 rfl rfl rfl ?_
  refine wk_cP1 (q := 5) dX6_greet_2 rfl vl_X6_102 ⟨_, _, rfl⟩ hX.ob (ct_X6_isGuest hX hg (by omega)) (qRo_m ok_X6_isGuest (by decide) (Nat.le_refl _) (Nat.le_refl _)) (Nat.le_of_ble_eq_true rfl) (fun v2 hv2 => ?_)
  rcases hv2 with ⟨rfl, hv2⟩ | ⟨rfl, hv2⟩
  · rw [e7] at hv2
    refine wk_if_ne (t := 10) (q := 8) dX6_greet_5 rfl rfl (by omega) (fun _ => ?_) (fun hq => absurd hq (by decide))
    refine wk_aload_n (i := 0) (q := 11) dX6_greet_10 rfl rfl rfl ?_
    refine wk_getR (fi := 1) (q := 14) dX6_greet_11 rfl fl_X6_20 rfl rfl hX.ob hX.r1 ?_
    refine wk_getR (fi := 2) (q := 17) dX6_greet_14 rfl fl_X6_105 rfl rfl hX.o1.ob hX.o1.r2 ?_
    refine wk_iload_n (i := 1) (q := 18) dX6_greet_17 rfl rfl rfl ?_
    refine wk_iald (q := 19) dX6_greet_18 rfl hX.o1.s2 (by omega) ?_
    obtain ⟨w1, w2, -⟩ := eg g hv2.1 hv2.2
    have w3 := (hok.tab (by omega)).1.2.2.2.2.2 g hv2.1 hv2.2
    rw [w1]
    refine wk_iconst (q := 20) dX6_greet_19 rfl ?_
    refine wk_icmp_ne (t := 31) (q := 23) dX6_greet_20 rfl rfl (by omega) (by omega) (fun hc20 => ?_) (fun hc20 => ?_)
    · refine wk_aload_n (i := 0) (q := 32) dX6_greet_31 rfl rfl rfl ?_
      refine wk_iconst (q := 33) dX6_greet_32 rfl ?_
      refine wk_cV1 (q := 36) dX6_greet_33 rfl vl_X6_288 ⟨_, _, rfl⟩ hX.ob (ct_X6_leaveNumber hX) (qRo_m ok_X6_leaveNumber (by decide) (Nat.le_refl _) (Nat.le_refl _)) (Nat.le_of_ble_eq_true rfl) (fun I33 L33 R33 hv33 => ?_)
      obtain ⟨rfl, rfl, rfl⟩ := hv33
      refine wk_iload_n (i := 1) (q := 37) dX6_greet_36 rfl rfl rfl ?_
      refine wk_iret dX6_greet_37 rfl ⟨Nat.le_refl _, Nat.le_refl _⟩ rfl ?_
      refine cp_trace hh rfl ?_ ?_
      · unfold s_greet
        rw [if_neg (fun q => q hv2), if_neg hc20, h11]
      · unfold r_greet
        rw [if_neg (fun q => q hv2), if_neg hc20]
    · refine wk_aload_n (i := 0) (q := 24) dX6_greet_23 rfl rfl rfl ?_
      refine wk_iconst (q := 25) dX6_greet_24 rfl ?_
      refine wk_cV1 (q := 28) dX6_greet_25 rfl vl_X6_288 ⟨_, _, rfl⟩ hX.ob (ct_X6_leaveNumber hX) (qRo_m ok_X6_leaveNumber (by decide) (Nat.le_refl _) (Nat.le_refl _)) (Nat.le_of_ble_eq_true rfl) (fun I25 L25 R25 hv25 => ?_)
      obtain ⟨rfl, rfl, rfl⟩ := hv25
      refine wk_bipush (q := 30) dX6_greet_28 rfl (by decide +kernel) ?_
      refine wk_iret dX6_greet_30 rfl ⟨Nat.le_refl _, Nat.le_refl _⟩ rfl ?_
      refine cp_trace hh rfl ?_ ?_
      · unfold s_greet
        rw [if_neg (fun q => q hv2), if_pos hc20, h11]
      · unfold r_greet
        rw [if_neg (fun q => q hv2), if_pos hc20]
  · rw [e7] at hv2
    refine wk_if_ne (t := 10) (q := 8) dX6_greet_5 rfl rfl (by omega) (fun hq => absurd hq (by decide)) (fun _ => ?_)
    refine wk_iconst (q := 9) dX6_greet_8 rfl ?_
    refine wk_iret dX6_greet_9 rfl ⟨Nat.le_refl _, Nat.le_refl _⟩ rfl ?_
    refine cp_same h ?_ ?_
    · unfold s_greet
      rw [if_pos hv2]
    · unfold r_greet
      rw [if_pos hv2]
theorem oc_as {x : Nat} {V : VV} {g w : Int} (h : CI E.2.2 n sh x I L R V) (hg : in32 g) (hw : in32 w) :
    Ct l E 1 mX6_as [.ref x, .int (zI g), .int (zI w)] (n, sh, I, L, R) 0 0 (qZ n sh (cpZ E.2.2 n sh x I R (r_as V g w) (s_as V g w))) := by
  obtain ⟨o, dr, u1', u2', u3', hh⟩ := id h
  obtain ⟨hX, hod, hok, h10, h11, h12, hS, hT, hB, hC⟩ := id hh
  have hng := hok.ng
  have e7 : up I x 12 0 o 7 = V.T.ng := by rw [up_na _ _ _ _ (by omega)]; exact hT.1.2.1
  have eg := hT.1.2.2.2
  refine Ct.of (lo := [(0, _), (1, _), (2, _)]) ok_X6_as (Nat.le_of_ble_eq_true rfl) rfl ?_
  refine wk_aload_n (i := 0) (q := 1) dX6_as_0 rfl rfl rfl ?_
  refine wk_iconst (q := 2) dX6_as_1 rfl ?_
  refine wk_putI (fi := 12) (q := 5) dX6_as_2 rfl fl_X6_246 fw_6_12 rfl rfl hX.ob ?_
  refine wk_aload_n (i := 0) (q := 6) dX6_as_5 rfl rfl rfl ?_
  refine wk_iload_n (i := 1) (q := 7) dX6_as_6 rfl rfl rfl ?_
  refine wk_cP1 (q := 10) dX6_as_7 rfl vl_X6_102 ⟨_, _, rfl⟩ hX.ob (ct_X6_isGuest hX hg (by omega)) (qRo_m ok_X6_isGuest (by decide) (Nat.le_refl _) (Nat.le_refl _)) (Nat.le_of_ble_eq_true rfl) (fun v7 hv7 => ?_)
  rcases hv7 with ⟨rfl, hv7⟩ | ⟨rfl, hv7⟩
  · rw [e7] at hv7
    refine wk_if_ne (t := 15) (q := 13) dX6_as_10 rfl rfl (by omega) (fun _ => ?_) (fun hq => absurd hq (by decide))
    refine wk_iload_n (i := 2) (q := 16) dX6_as_15 rfl rfl rfl ?_
    refine wk_if_lt (t := 24) (q := 19) dX6_as_16 rfl rfl (by omega) (fun hc16 => ?_) (fun hc16 => ?_)
    · refine wk_bipush (q := 26) dX6_as_24 rfl (by decide +kernel) ?_
      refine wk_iret dX6_as_26 rfl ⟨Nat.le_refl _, Nat.le_refl _⟩ rfl ?_
      refine cp_fault hh rfl ?_ ?_
      · unfold s_as
        first
          | rw [if_pos hv7]
          | rw [if_neg (fun q => q hv7), if_pos (by omega)]
          | rw [if_neg (fun q => q hv7), if_neg (by omega), if_pos (by omega)]
          | rw [if_neg (fun q => q hv7), if_neg (by omega), if_neg (by omega)]
      · unfold r_as
        first
          | rw [if_pos hv7]
          | rw [if_neg (fun q => q hv7), if_pos (by omega)]
          | (rw [if_neg (fun q => q hv7), if_neg (by omega), if_pos (by omega)]; omega)
          | rw [if_neg (fun q => q hv7), if_neg (by omega), if_neg (by omega)]
    · refine wk_iload_n (i := 2) (q := 20) dX6_as_19 rfl rfl rfl ?_
      refine wk_iconst (q := 21) dX6_as_20 rfl ?_
      refine wk_icmp_le (t := 27) (q := 24) dX6_as_21 rfl rfl (by omega) (by omega) (fun hc21 => ?_) (fun hc21 => ?_)
      · refine wk_iload_n (i := 2) (q := 28) dX6_as_27 rfl rfl rfl ?_
        refine wk_aload_n (i := 0) (q := 29) dX6_as_28 rfl rfl rfl ?_
        refine wk_getR (fi := 1) (q := 32) dX6_as_29 rfl fl_X6_20 rfl rfl hX.ob hX.r1 ?_
        refine wk_getR (fi := 2) (q := 35) dX6_as_32 rfl fl_X6_105 rfl rfl hX.o1.ob hX.o1.r2 ?_
        refine wk_iload_n (i := 1) (q := 36) dX6_as_35 rfl rfl rfl ?_
        refine wk_iald (q := 37) dX6_as_36 rfl hX.o1.s2 (by omega) ?_
        rw [up_na _ _ _ _ (by omega), (eg g hv7.1 hv7.2).1]
        have w3 := (hok.tab (by omega)).1.2.2.2.2.2 g hv7.1 hv7.2
        refine wk_icmp_le (t := 48) (q := 40) dX6_as_37 rfl rfl (by omega) (by omega) (fun hc37 => ?_) (fun hc37 => ?_)
        · refine wk_iconst (q := 49) dX6_as_48 rfl ?_
          refine wk_iret dX6_as_49 rfl ⟨Nat.le_refl _, Nat.le_refl _⟩ rfl ?_
          refine cp_fault hh rfl ?_ ?_
          · unfold s_as
            first
              | rw [if_pos hv7]
              | rw [if_neg (fun q => q hv7), if_pos (by omega)]
              | rw [if_neg (fun q => q hv7), if_neg (by omega), if_pos (by omega)]
              | rw [if_neg (fun q => q hv7), if_neg (by omega), if_neg (by omega)]
          · unfold r_as
            first
              | rw [if_pos hv7]
              | rw [if_neg (fun q => q hv7), if_pos (by omega)]
              | (rw [if_neg (fun q => q hv7), if_neg (by omega), if_pos (by omega)]; omega)
              | rw [if_neg (fun q => q hv7), if_neg (by omega), if_neg (by omega)]
        · refine wk_aload_n (i := 0) (q := 41) dX6_as_40 rfl rfl rfl ?_
          refine wk_iconst (q := 42) dX6_as_41 rfl ?_
          refine wk_cZ1 (q := 45) dX6_as_42 rfl vl_X6_255 ⟨_, _, rfl⟩ hX.ob (ct_X6_faulty hX) (qRo_m ok_X6_faulty (by decide) (Nat.le_refl _) (Nat.le_refl _)) (Nat.le_of_ble_eq_true rfl) (fun v42 I42 L42 R42 hv42 => ?_)
          obtain ⟨rfl, rfl, rfl, rfl⟩ := hv42
          rw [up2_12]
          refine wk_goto (t := 49) dX6_as_45 rfl ?_
          refine wk_iret dX6_as_49 rfl ⟨Nat.le_refl _, Nat.le_refl _⟩ rfl ?_
          refine cp_fault hh rfl ?_ ?_
          · unfold s_as
            first
              | rw [if_pos hv7]
              | rw [if_neg (fun q => q hv7), if_pos (by omega)]
              | rw [if_neg (fun q => q hv7), if_neg (by omega), if_pos (by omega)]
              | rw [if_neg (fun q => q hv7), if_neg (by omega), if_neg (by omega)]
          · unfold r_as
            first
              | rw [if_pos hv7]
              | rw [if_neg (fun q => q hv7), if_pos (by omega)]
              | (rw [if_neg (fun q => q hv7), if_neg (by omega), if_pos (by omega)]; omega)
              | rw [if_neg (fun q => q hv7), if_neg (by omega), if_neg (by omega)]
      · refine wk_bipush (q := 26) dX6_as_24 rfl (by decide +kernel) ?_
        refine wk_iret dX6_as_26 rfl ⟨Nat.le_refl _, Nat.le_refl _⟩ rfl ?_
        refine cp_fault hh rfl ?_ ?_
        · unfold s_as
          first
            | rw [if_pos hv7]
            | rw [if_neg (fun q => q hv7), if_pos (by omega)]
            | rw [if_neg (fun q => q hv7), if_neg (by omega), if_pos (by omega)]
            | rw [if_neg (fun q => q hv7), if_neg (by omega), if_neg (by omega)]
        · unfold r_as
          first
            | rw [if_pos hv7]
            | rw [if_neg (fun q => q hv7), if_pos (by omega)]
            | (rw [if_neg (fun q => q hv7), if_neg (by omega), if_pos (by omega)]; omega)
            | rw [if_neg (fun q => q hv7), if_neg (by omega), if_neg (by omega)]
  · rw [e7] at hv7
    refine wk_if_ne (t := 15) (q := 13) dX6_as_10 rfl rfl (by omega) (fun hq => absurd hq (by decide)) (fun _ => ?_)
    refine wk_iconst (q := 14) dX6_as_13 rfl ?_
    refine wk_iret dX6_as_14 rfl ⟨Nat.le_refl _, Nat.le_refl _⟩ rfl ?_
    refine cp_fault hh rfl ?_ ?_
    · unfold s_as
      first
        | rw [if_pos hv7]
        | rw [if_neg (fun q => q hv7), if_pos (by omega)]
        | rw [if_neg (fun q => q hv7), if_neg (by omega), if_pos (by omega)]
        | rw [if_neg (fun q => q hv7), if_neg (by omega), if_neg (by omega)]
    · unfold r_as
      first
        | rw [if_pos hv7]
        | rw [if_neg (fun q => q hv7), if_pos (by omega)]
        | (rw [if_neg (fun q => q hv7), if_neg (by omega), if_pos (by omega)]; omega)
        | rw [if_neg (fun q => q hv7), if_neg (by omega), if_neg (by omega)]
end CLS5
