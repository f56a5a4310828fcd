/-! the class's calls (3): sheets, parts -/
def r_sheet (k so z : Int) : Int := if ¬ (0 ≤ k ∧ k < 4) then -1 else if ¬ (0 ≤ so ∧ so ≤ 2) ∨ 100 < z then -2 else if z < 0 then -14 else 1
def s_sheet (V : VV) (k so z : Int) : VV := if ¬ (0 ≤ k ∧ k < 4) then V.setFa 0 else if ¬ (0 ≤ so ∧ so ≤ 2) ∨ 100 < z then V.setFa 0 else if z < 0 then V.setFa 4 else (V.setFa 0).setSh (u1 V.th k 1) (u1 V.so k so) (u1 V.sl k z) (fun a i => if a = k then 0 else V.ce a i)
def r_put (V : VV) (k i : Int) : Int := if ¬ (0 ≤ k ∧ k < 4) then -1 else if V.th k ≠ 1 then -11 else if 0 ≤ i ∧ i < V.sl k then 1 else -13
def s_put (V : VV) (k i v : Int) : VV := if ¬ (0 ≤ k ∧ k < 4) then V.setFa 0 else if V.th k ≠ 1 then V.setFa 1 else if 0 ≤ i ∧ i < V.sl k then (V.setFa 0).setSh V.th V.so V.sl (u2 V.ce k i (cutS (V.so k) v)) else V.setFa 3
theorem CI0.shW {b n : Nat} {sh : qSh} {x : Nat} {I L I' : qI} {R : qR} {V V' : VV} {o d u1 u2 u3 : Nat} (h : CI0 b n sh x I L R V o d u1 u2 u3) (hV : V'.T = V.T ∧ V'.C = V.C ∧ V'.la = V.la ∧ V'.ni = V.ni ∧ V'.tr = V.tr) (hI : ∀ c i, ¬ (c = x ∧ i = 12) → ¬ (x + 159 ≤ c ∧ c < x + 167) → I' c i = I c i) (e12 : I' x 12 = V'.fa) (hS : shSh I' x V') (hok : V'.shok) : CI0 b n sh x I' L R V' o d u1 u2 u3 := by
  obtain ⟨v1, v2, v3, v4, v5⟩ := hV
  have hok0 := h.2.2.1
  have hng := hok0.ng
  have hT2 := h.2.2.2.2.2.2.2.1.2
  refine h.gen h.1 v1 ⟨hok, by rw [v1, v2, v3]; exact hok0.2⟩ (fun c i q1 q2 => hI c i (by omega) (by omega)) (by rw [hI _ _ (by omega) (by omega), v4]; exact h.2.2.2.1) (by rw [hI _ _ (by omega) (by omega), v5]; exact h.2.2.2.2.1) e12 hS (fun q => ?_) (fun q => ?_) ?_ ?_
  · rw [hI _ _ (by omega) (by omega), hI _ _ (by omega) (by omega)]
    rcases hT2 with z | z
    · exact z.2
    · omega
  · obtain ⟨t1, t2, t3, t4, t5, t6, t7⟩ := h.full q
    rw [v1, v2, v3]
    exact ⟨t5.cg hng.2.1 (fun c i z => hI c i (by omega) (by omega)), by rw [hI _ _ (by omega) (by omega)]; exact t6, fun g g0 g1 => by rw [hI _ _ (by omega) (by omega)]; exact t7 g g0 g1⟩
  · have hB := h.2.2.2.2.2.2.2.2.1
    rw [v1, v2]
    unfold caB at hB ⊢
    rw [hI _ _ (by omega) (by omega)]
    exact hB
  · have hC := h.2.2.2.2.2.2.2.2.2
    rw [v1, v2]
    unfold caS at hC ⊢
    rw [hI _ _ (by omega) (by omega)]
    rcases hC with z | ⟨z1, z2, z3⟩
    · exact Or.inl z
    · exact Or.inr ⟨z1, z2, fun aim a0 a1 => ⟨by rw [hI _ _ (by omega) (by omega)]; exact (z3 aim a0 a1).1, fun s s0 s1 => by rw [hI _ _ (by omega) (by omega)]; exact (z3 aim a0 a1).2 s s0 s1⟩⟩
section CLS4
variable {l : Launch} {E : qEv} {n : Nat} {sh : qSh} {I L : qI} {R : qR}
/-- an answer, the fault set behind it -/
theorem cp_fault {b x : Nat} {V V' : VV} {o d u1 u2 u3 : Nat} (h : CI0 b n sh x I L R V o d u1 u2 u3) {r v z : Int} {I' : qI} (hI : I' = up I x 12 z) (hV : V' = V.setFa z) (hv : v = r) : ∃ v' I2 L2 R2, some (Value.int (zI v)) = some (.int (zI v')) ∧ (n, sh, I', L, R) = (n, sh, I2, L2, R2) ∧ cpZ b n sh x I R r V' v' I2 L2 R2 :=
  ⟨_, _, _, _, rfl, rfl, hv, by rw [hV, hI]; exact (h.fault z).ci, by rw [hI]; exact frO_up _ _ (by omega), frO.rf⟩
theorem up2_12 {x : Nat} (f g : Int) : up (up I x 12 f) x 12 g = up I x 12 g := funext fun b => funext fun j => by
  unfold up
  split <;> rfl
theorem oc_sheet {x : Nat} {V : VV} {k so z : Int} (h : CI E.2.2 n sh x I L R V) (hk : in32 k) (hso : in32 so) (hz : in32 z) :
    Ct l E 2 mX6_sheet [.ref x, .int (zI k), .int (zI so), .int (zI z)] (n, sh, I, L, R) 0 0 (qZ n sh (cpZ E.2.2 n sh x I R (r_sheet k so z) (s_sheet V k so z))) := by
  obtain ⟨o, dr, u1', u2', u3', hh⟩ := id h
  obtain ⟨hX, hod, hok, h10, h11, h12, hS, hT, hB, hC⟩ := id hh
  refine Ct.of (lo := [(0, _), (1, _), (2, _), (3, _)]) ok_X6_sheet (Nat.le_of_ble_eq_true rfl) rfl ?_
  refine wk_aload_n (i := 0) (q := 1) dX6_sheet_0 rfl rfl rfl ?_
  refine wk_iconst (q := 2) dX6_sheet_1 rfl ?_
  refine wk_putI (fi := 12) (q := 5) dX6_sheet_2 rfl fl_X6_246 fw_6_12 rfl rfl hX.ob ?_
  refine wk_iload_n (i := 1) (q := 6) dX6_sheet_5 rfl rfl rfl ?_
  refine wk_sP1 (q := 9) dX6_sheet_6 rfl sl_X6_249 (ct_X6_isSheet hk) (qRo_m ok_X6_isSheet (by decide) (Nat.le_refl _) (Nat.le_refl _)) (Nat.le_of_ble_eq_true rfl) (fun v6 hv6 => ?_)
  rcases hv6 with ⟨rfl, hv6⟩ | ⟨rfl, hv6⟩
  · refine wk_if_ne (t := 14) (q := 12) dX6_sheet_9 rfl rfl (by omega) (fun _ => ?_) (fun hq => absurd hq (by decide))
    refine wk_iload_n (i := 2) (q := 15) dX6_sheet_14 rfl rfl rfl ?_
    refine wk_sP1 (q := 18) dX6_sheet_15 rfl sl_X6_252 (ct_X6_isSort hso) (qRo_m ok_X6_isSort (by decide) (Nat.le_refl _) (Nat.le_refl _)) (Nat.le_of_ble_eq_true rfl) (fun v15 hv15 => ?_)
    rcases hv15 with ⟨rfl, hv15⟩ | ⟨rfl, hv15⟩
    · refine wk_if_eq (t := 27) (q := 21) dX6_sheet_18 rfl rfl (by omega) (fun hq => absurd hq (by decide)) (fun _ => ?_)
      refine wk_iload_n (i := 3) (q := 22) dX6_sheet_21 rfl rfl rfl ?_
      refine wk_bipush (q := 24) dX6_sheet_22 rfl (by decide +kernel) ?_
      refine wk_icmp_le (t := 30) (q := 27) dX6_sheet_24 rfl rfl (by omega) (by omega) (fun hc24 => ?_) (fun hc24 => ?_)
      · refine wk_iload_n (i := 3) (q := 31) dX6_sheet_30 rfl rfl rfl ?_
        refine wk_if_ge (t := 40) (q := 34) dX6_sheet_31 rfl rfl (by omega) (fun hc31 => ?_) (fun hc31 => ?_)
        · refine wk_aload_n (i := 0) (q := 41) dX6_sheet_40 rfl rfl rfl ?_
          refine wk_getR (fi := 0) (q := 44) dX6_sheet_41 rfl fl_X6_13 rfl rfl hX.ob hX.r0 ?_
          refine wk_iload_n (i := 1) (q := 45) dX6_sheet_44 rfl rfl rfl ?_
          refine wk_aald3 (q := 46) dX6_sheet_45 rfl hX.s0 (by omega) (hX.w0 (by omega)) ?_
          refine wk_iload_n (i := 2) (q := 47) dX6_sheet_46 rfl rfl rfl ?_
          refine wk_iload_n (i := 3) (q := 48) dX6_sheet_47 rfl rfl rfl ?_
          refine wk_cV2 (q := 51) dX6_sheet_48 rfl vl_X6_258 ⟨_, _, rfl⟩ (hX.e0 (by omega)).ob (ct_X3_renew (hX.e0 (by omega))) (qRo_m ok_X3_renew (by decide) (Nat.le_refl _) (Nat.le_refl _)) (Nat.le_of_ble_eq_true rfl) (fun I48 L48 R48 hv48 => ?_)
          obtain ⟨rfl, rfl, rfl⟩ := hv48
          refine wk_iconst (q := 52) dX6_sheet_51 rfl ?_
          refine wk_iret dX6_sheet_52 rfl ⟨Nat.le_refl _, Nat.le_refl _⟩ rfl ?_
          have hs : s_sheet V k so z = (V.setFa 0).setSh (u1 V.th k 1) (u1 V.so k so) (u1 V.sl k z) (fun a i => if a = k then 0 else V.ce a i) := by
            unfold s_sheet
            rw [if_neg (by omega), if_neg (by omega), if_neg (by omega)]
          have hr : (1 : Int) = r_sheet k so z := by
            unfold r_sheet
            rw [if_neg (by omega), if_neg (by omega), if_neg (by omega)]
          refine ⟨_, _, _, _, rfl, rfl, hr, CI0.ci (o := o) (d := dr) (u1 := u1') (u2 := u2') (u3 := u3') ?_, fun c i q => by rw [fillI_ne _ _ _ (by omega), up_na _ _ _ _ (by omega), up_na _ _ _ _ (by omega), up_na _ _ _ _ (by omega), up_na _ _ _ _ (by omega)], frO.rf⟩
          rw [hs]
          refine hh.shW ⟨rfl, rfl, rfl, rfl, rfl⟩ (fun c i q1 q2 => by rw [fillI_ne _ _ _ (by omega), up_na _ _ _ _ (by omega), up_na _ _ _ _ (by omega), up_na _ _ _ _ (by omega), up_off (by omega)]) (by rw [fillI_ne _ _ _ (by omega), up_na _ _ _ _ (by omega), up_na _ _ _ _ (by omega), up_na _ _ _ _ (by omega), up_eq]; rfl) (fun a a0 a1 => ?_) (fun a a0 a1 => ?_)
          · obtain ⟨w1, w2, w3, w4⟩ := hS a a0 a1
            show _ = u1 V.th k 1 a ∧ _ = u1 V.so k so a ∧ _ = u1 V.sl k z a ∧ ∀ i, 0 ≤ i → i < 100 → _ = if a = k then 0 else V.ce a i
            by_cases hq : a = k
            · rw [hq, u1_eq, u1_eq, u1_eq]
              refine ⟨?_, ?_, ?_, fun i i0 i1 => ?_⟩
              · rw [fillI_ne _ _ _ (by omega), up_ni _ _ (by omega), up_ni _ _ (by omega), up_eq]
              · rw [fillI_ne _ _ _ (by omega), up_ni _ _ (by omega), up_eq]
              · rw [fillI_ne _ _ _ (by omega), up_eq]
              · rw [fillI_in (by omega), if_pos rfl]
            · rw [u1_ne hq, u1_ne hq, u1_ne hq]
              refine ⟨?_, ?_, ?_, fun i i0 i1 => ?_⟩
              · rw [fillI_ne _ _ _ (by omega), up_na _ _ _ _ (by omega), up_na _ _ _ _ (by omega), up_na _ _ _ _ (by omega), up_na _ _ _ _ (by omega)]
                exact w1
              · rw [fillI_ne _ _ _ (by omega), up_na _ _ _ _ (by omega), up_na _ _ _ _ (by omega), up_na _ _ _ _ (by omega), up_na _ _ _ _ (by omega)]
                exact w2
              · rw [fillI_ne _ _ _ (by omega), up_na _ _ _ _ (by omega), up_na _ _ _ _ (by omega), up_na _ _ _ _ (by omega), up_na _ _ _ _ (by omega)]
                exact w3
              · rw [fillI_ne _ _ _ (by omega), up_na _ _ _ _ (by omega), up_na _ _ _ _ (by omega), up_na _ _ _ _ (by omega), up_na _ _ _ _ (by omega)]
                rw [if_neg hq]
                exact w4 i i0 i1
          · obtain ⟨w1, w2, w3, w4, w5⟩ := hok.1 a a0 a1
            show (u1 V.th k 1 a = 0 ∨ (u1 V.th k 1 a = 1 ∧ 0 ≤ u1 V.so k so a ∧ u1 V.so k so a ≤ 2)) ∧ in32 (u1 V.so k so a) ∧ 0 ≤ u1 V.sl k z a ∧ u1 V.sl k z a ≤ 100 ∧ ∀ i, 0 ≤ i → i < 100 → in32 (if a = k then 0 else V.ce a i)
            by_cases hq : a = k
            · rw [hq, u1_eq, u1_eq, u1_eq]
              exact ⟨Or.inr ⟨rfl, by omega, by omega⟩, by omega, by omega, by omega, fun i i0 i1 => by rw [if_pos rfl]; omega⟩
            · rw [u1_ne hq, u1_ne hq, u1_ne hq]
              exact ⟨w1, w2, w3, w4, fun i i0 i1 => by rw [if_neg hq]; exact w5 i i0 i1⟩
        · refine wk_aload_n (i := 0) (q := 35) dX6_sheet_34 rfl rfl rfl ?_
          refine wk_iconst (q := 36) dX6_sheet_35 rfl ?_
          refine wk_cZ1 (q := 39) dX6_sheet_36 rfl vl_X6_255 ⟨_, _, rfl⟩ hX.ob (ct_X6_faulty hX) (qRo_m ok_X6_faulty (by decide) (Nat.le_refl _) (Nat.le_refl _)) (Nat.le_of_ble_eq_true rfl) (fun v36 I36 L36 R36 hv36 => ?_)
          obtain ⟨rfl, rfl, rfl, rfl⟩ := hv36
          rw [up2_12]
          refine wk_iret dX6_sheet_39 rfl ⟨Nat.le_refl _, Nat.le_refl _⟩ rfl ?_
          refine cp_fault hh rfl ?_ ?_
          · unfold s_sheet
            first
              | rw [if_pos (by omega)]
              | rw [if_neg (by omega), if_pos (by omega)]
              | rw [if_neg (by omega), if_neg (by omega), if_pos (by omega)]
          · unfold r_sheet
            first
              | rw [if_pos (by omega)]
              | rw [if_neg (by omega), if_pos (by omega)]
              | (rw [if_neg (by omega), if_neg (by omega), if_pos (by omega)]; omega)
      · refine wk_bipush (q := 29) dX6_sheet_27 rfl (by decide +kernel) ?_
        refine wk_iret dX6_sheet_29 rfl ⟨Nat.le_refl _, Nat.le_refl _⟩ rfl ?_
        refine cp_fault hh rfl ?_ ?_
        · unfold s_sheet
          first
            | rw [if_pos (by omega)]
            | rw [if_neg (by omega), if_pos (by omega)]
            | rw [if_neg (by omega), if_neg (by omega), if_pos (by omega)]
        · unfold r_sheet
          first
            | rw [if_pos (by omega)]
            | rw [if_neg (by omega), if_pos (by omega)]
            | (rw [if_neg (by omega), if_neg (by omega), if_pos (by omega)]; omega)
    · refine wk_if_eq (t := 27) (q := 21) dX6_sheet_18 rfl rfl (by omega) (fun _ => ?_) (fun hq => absurd hq (by decide))
      refine wk_bipush (q := 29) dX6_sheet_27 rfl (by decide +kernel) ?_
      refine wk_iret dX6_sheet_29 rfl ⟨Nat.le_refl _, Nat.le_refl _⟩ rfl ?_
      refine cp_fault hh rfl ?_ ?_
      · unfold s_sheet
        first
          | rw [if_pos (by omega)]
          | rw [if_neg (by omega), if_pos (by omega)]
          | rw [if_neg (by omega), if_neg (by omega), if_pos (by omega)]
      · unfold r_sheet
        first
          | rw [if_pos (by omega)]
          | rw [if_neg (by omega), if_pos (by omega)]
          | (rw [if_neg (by omega), if_neg (by omega), if_pos (by omega)]; omega)
  · refine wk_if_ne (t := 14) (q := 12) dX6_sheet_9 rfl rfl (by omega) (fun hq => absurd hq (by decide)) (fun _ => ?_)
    refine wk_iconst (q := 13) dX6_sheet_12 rfl ?_
    refine wk_iret dX6_sheet_13 rfl ⟨Nat.le_refl _, Nat.le_refl _⟩ rfl ?_
    refine cp_fault hh rfl ?_ ?_
    · unfold s_sheet
      first
        | rw [if_pos (by omega)]
        | rw [if_neg (by omega), if_pos (by omega)]
        | rw [if_neg (by omega), if_neg (by omega), if_pos (by omega)]
    · unfold r_sheet
      first
        | rw [if_pos (by omega)]
        | rw [if_neg (by omega), if_pos (by omega)]
        | (rw [if_neg (by omega), if_neg (by omega), if_pos (by omega)]; omega)
theorem oc_put {x : Nat} {V : VV} {k i v : Int} (h : CI E.2.2 n sh x I L R V) (hk : in32 k) (hi : in32 i) (hv : in32 v) :
    Ct l E 1 mX6_put [.ref x, .int (zI k), .int (zI i), .int (zI v)] (n, sh, I, L, R) 0 0 (qZ n sh (cpZ E.2.2 n sh x I R (r_put V k i) (s_put V k i v))) := by
  obtain ⟨o, dr, u1', u2', u3', hh⟩ := id h
  obtain ⟨hX, hod, hok, h10, h11, h12, hS, hT, hB, hC⟩ := id hh
  refine Ct.of (lo := [(0, _), (1, _), (2, _), (3, _)]) ok_X6_put (Nat.le_of_ble_eq_true rfl) rfl ?_
  refine wk_aload_n (i := 0) (q := 1) dX6_put_0 rfl rfl rfl ?_
  refine wk_iconst (q := 2) dX6_put_1 rfl ?_
  refine wk_putI (fi := 12) (q := 5) dX6_put_2 rfl fl_X6_246 fw_6_12 rfl rfl hX.ob ?_
  refine wk_iload_n (i := 1) (q := 6) dX6_put_5 rfl rfl rfl ?_
  refine wk_sP1 (q := 9) dX6_put_6 rfl sl_X6_249 (ct_X6_isSheet hk) (qRo_m ok_X6_isSheet (by decide) (Nat.le_refl _) (Nat.le_refl _)) (Nat.le_of_ble_eq_true rfl) (fun v6 hv6 => ?_)
  rcases hv6 with ⟨rfl, hv6⟩ | ⟨rfl, hv6⟩
  · refine wk_if_ne (t := 14) (q := 12) dX6_put_9 rfl rfl (by omega) (fun _ => ?_) (fun hq => absurd hq (by decide))
    refine wk_aload_n (i := 0) (q := 15) dX6_put_14 rfl rfl rfl ?_
    refine wk_getR (fi := 0) (q := 18) dX6_put_15 rfl fl_X6_13 rfl rfl hX.ob hX.r0 ?_
    refine wk_iload_n (i := 1) (q := 19) dX6_put_18 rfl rfl rfl ?_
    refine wk_aald3 (q := 20) dX6_put_19 rfl hX.s0 (by omega) (hX.w0 (by omega)) ?_
    refine wk_getZ (fi := 1) (q := 23) dX6_put_20 rfl fl_X6_261 rfl rfl (hX.e0 (by omega)).ob ?_
    rw [up_na _ _ _ _ (by omega), (hS k hv6.1 hv6.2).1]
    obtain ⟨w1, w2, w3, w4, w5⟩ := hok.1 k hv6.1 hv6.2
    refine wk_if_ne (t := 32) (q := 26) dX6_put_23 rfl rfl (by omega) (fun hc23 => ?_) (fun hc23 => ?_)
    · refine wk_aload_n (i := 0) (q := 33) dX6_put_32 rfl rfl rfl ?_
      refine wk_getR (fi := 0) (q := 36) dX6_put_33 rfl fl_X6_13 rfl rfl hX.ob hX.r0 ?_
      refine wk_iload_n (i := 1) (q := 37) dX6_put_36 rfl rfl rfl ?_
      refine wk_aald3 (q := 38) dX6_put_37 rfl hX.s0 (by omega) (hX.w0 (by omega)) ?_
      refine wk_iload_n (i := 2) (q := 39) dX6_put_38 rfl rfl rfl ?_
      refine wk_iconst (q := 40) dX6_put_39 rfl ?_
      have e3 : up I x 12 0 (x + 159 + 2 * k.toNat) 3 = V.sl k := by rw [up_na _ _ _ _ (by omega)]; exact (hS k hv6.1 hv6.2).2.2.1
      have e2 : up I x 12 0 (x + 159 + 2 * k.toNat) 2 = V.so k := by rw [up_na _ _ _ _ (by omega)]; exact (hS k hv6.1 hv6.2).2.1
      refine wk_cP2 (q := 43) dX6_put_40 rfl vl_X6_264 ⟨_, _, rfl⟩ (hX.e0 (by omega)).ob (ct_X3_holds (hX.e0 (by omega)) hi (by omega) (by rw [e3]; omega)) (qRo_m ok_X3_holds (by decide) (Nat.le_refl _) (Nat.le_refl _)) (Nat.le_of_ble_eq_true rfl) (fun v40 hv40 => ?_)
      rcases hv40 with ⟨rfl, hv40⟩ | ⟨rfl, hv40⟩
      · rw [e3] at hv40
        refine wk_if_ne (t := 52) (q := 46) dX6_put_43 rfl rfl (by omega) (fun _ => ?_) (fun hq => absurd hq (by decide))
        refine wk_aload_n (i := 0) (q := 53) dX6_put_52 rfl rfl rfl ?_
        refine wk_getR (fi := 0) (q := 56) dX6_put_53 rfl fl_X6_13 rfl rfl hX.ob hX.r0 ?_
        refine wk_iload_n (i := 1) (q := 57) dX6_put_56 rfl rfl rfl ?_
        refine wk_aald3 (q := 58) dX6_put_57 rfl hX.s0 (by omega) (hX.w0 (by omega)) ?_
        refine wk_iload_n (i := 2) (q := 59) dX6_put_58 rfl rfl rfl ?_
        refine wk_iload_n (i := 3) (q := 60) dX6_put_59 rfl rfl rfl ?_
        refine wk_cV2 (q := 63) dX6_put_60 rfl vl_X6_267 ⟨_, _, rfl⟩ (hX.e0 (by omega)).ob (ct_X3_write (hX.e0 (by omega)) (by omega) (by rw [e2]; exact w2)) (qRo_m ok_X3_write (by decide) (Nat.le_refl _) (Nat.le_refl _)) (Nat.le_of_ble_eq_true rfl) (fun I60 L60 R60 hv60 => ?_)
        obtain ⟨rfl, rfl, rfl⟩ := hv60
        rw [e2]
        refine wk_iconst (q := 64) dX6_put_63 rfl ?_
        refine wk_iret dX6_put_64 rfl ⟨Nat.le_refl _, Nat.le_refl _⟩ rfl ?_
        have hs : s_put V k i v = (V.setFa 0).setSh V.th V.so V.sl (u2 V.ce k i (cutS (V.so k) v)) := by
          unfold s_put
          rw [if_neg (by omega), if_neg (by omega), if_pos (by omega)]
        refine ⟨_, _, _, _, rfl, rfl, ?_, CI0.ci (o := o) (d := dr) (u1 := u1') (u2 := u2') (u3 := u3') ?_, fun c j q => by rw [up_na _ _ _ _ (by omega), up_na _ _ _ _ (by omega)], frO.rf⟩
        · unfold r_put
          rw [if_neg (by omega), if_neg (by omega), if_pos (by omega)]
        · rw [hs]
          refine hh.shW ⟨rfl, rfl, rfl, rfl, rfl⟩ (fun c j q1 q2 => by rw [up_na _ _ _ _ (by omega), up_off (by omega)]) (by rw [up_na _ _ _ _ (by omega), up_eq]; rfl) (fun a a0 a1 => ?_) (fun a a0 a1 => ?_)
          · obtain ⟨y1, y2, y3, y4⟩ := hS a a0 a1
            show _ = V.th a ∧ _ = V.so a ∧ _ = V.sl a ∧ ∀ j, 0 ≤ j → j < 100 → _ = u2 V.ce k i (cutS (V.so k) v) a j
            refine ⟨by rw [up_na _ _ _ _ (by omega), up_na _ _ _ _ (by omega)]; exact y1, by rw [up_na _ _ _ _ (by omega), up_na _ _ _ _ (by omega)]; exact y2, by rw [up_na _ _ _ _ (by omega), up_na _ _ _ _ (by omega)]; exact y3, fun j j0 j1 => ?_⟩
            by_cases hq : a = k ∧ j = i
            · rw [hq.1, hq.2, up_eq, u2_eq]
            · rw [u2_ne (by omega), up_off (by omega), up_na _ _ _ _ (by omega)]
              exact y4 j j0 j1
          · obtain ⟨y1, y2, y3, y4, y5⟩ := hok.1 a a0 a1
            refine ⟨y1, y2, y3, y4, fun j j0 j1 => ?_⟩
            show in32 (u2 V.ce k i (cutS (V.so k) v) a j)
            by_cases hq : a = k ∧ j = i
            · rw [hq.1, hq.2, u2_eq]
              exact cutS_in hv
            · rw [u2_ne (by omega)]
              exact y5 j j0 j1
      · rw [e3] at hv40
        refine wk_if_ne (t := 52) (q := 46) dX6_put_43 rfl rfl (by omega) (fun hq => absurd hq (by decide)) (fun _ => ?_)
        refine wk_aload_n (i := 0) (q := 47) dX6_put_46 rfl rfl rfl ?_
        refine wk_iconst (q := 48) dX6_put_47 rfl ?_
        refine wk_cZ1 (q := 51) dX6_put_48 rfl vl_X6_255 ⟨_, _, rfl⟩ hX.ob (ct_X6_faulty hX) (qRo_m ok_X6_faulty (by decide) (Nat.le_refl _) (Nat.le_refl _)) (Nat.le_of_ble_eq_true rfl) (fun v48 I48 L48 R48 hv48 => ?_)
        obtain ⟨rfl, rfl, rfl, rfl⟩ := hv48
        rw [up2_12]
        refine wk_iret dX6_put_51 rfl ⟨Nat.le_refl _, Nat.le_refl _⟩ rfl ?_
        refine cp_fault hh rfl ?_ ?_
        · unfold s_put
          first
            | rw [if_pos hv6]
            | rw [if_neg (by omega), if_pos (by omega)]
            | rw [if_neg (by omega), if_neg (by omega), if_neg (by omega)]
        · unfold r_put
          first
            | rw [if_pos hv6]
            | (rw [if_neg (by omega), if_pos (by omega)]; omega)
            | (rw [if_neg (by omega), if_neg (by omega), if_neg (by omega)]; omega)
    · refine wk_aload_n (i := 0) (q := 27) dX6_put_26 rfl rfl rfl ?_
      refine wk_iconst (q := 28) dX6_put_27 rfl ?_
      refine wk_cZ1 (q := 31) dX6_put_28 rfl vl_X6_255 ⟨_, _, rfl⟩ hX.ob (ct_X6_faulty hX) (qRo_m ok_X6_faulty (by decide) (Nat.le_refl _) (Nat.le_refl _)) (Nat.le_of_ble_eq_true rfl) (fun v28 I28 L28 R28 hv28 => ?_)
      obtain ⟨rfl, rfl, rfl, rfl⟩ := hv28
      rw [up2_12]
      refine wk_iret dX6_put_31 rfl ⟨Nat.le_refl _, Nat.le_refl _⟩ rfl ?_
      refine cp_fault hh rfl ?_ ?_
      · unfold s_put
        first
          | rw [if_pos hv6]
          | rw [if_neg (by omega), if_pos (by omega)]
          | rw [if_neg (by omega), if_neg (by omega), if_neg (by omega)]
      · unfold r_put
        first
          | rw [if_pos hv6]
          | (rw [if_neg (by omega), if_pos (by omega)]; omega)
          | (rw [if_neg (by omega), if_neg (by omega), if_neg (by omega)]; omega)
  · refine wk_if_ne (t := 14) (q := 12) dX6_put_9 rfl rfl (by omega) (fun hq => absurd hq (by decide)) (fun _ => ?_)
    refine wk_iconst (q := 13) dX6_put_12 rfl ?_
    refine wk_iret dX6_put_13 rfl ⟨Nat.le_refl _, Nat.le_refl _⟩ rfl ?_
    refine cp_fault hh rfl ?_ ?_
    · unfold s_put
      first
        | rw [if_pos hv6]
        | rw [if_neg (by omega), if_pos (by omega)]
        | rw [if_neg (by omega), if_neg (by omega), if_neg (by omega)]
    · unfold r_put
      first
        | rw [if_pos hv6]
        | (rw [if_neg (by omega), if_pos (by omega)]; omega)
        | (rw [if_neg (by omega), if_neg (by omega), if_neg (by omega)]; omega)
theorem CI0.rf {b : Nat} {x : Nat} {V : VV} {o d u1 u2 u3 : Nat} {I' : qI} {z : Int} (h : CI0 b n sh x I L R V o d u1 u2 u3) (h1 : ∀ c j, ¬ (c = x ∧ j = 12) → I' c j = I c j) (h2 : I' x 12 = z) : CI0 b n sh x I' L R (V.setFa z) o d u1 u2 u3 ∧ frO I I' x 167 := by
  refine ⟨h.fld ⟨rfl, rfl, rfl, rfl, rfl, rfl, rfl⟩ (fun c j q => h1 c j (by omega)) (by rw [h1 _ _ (by omega)]; exact h.2.2.2.1) (by rw [h1 _ _ (by omega)]; exact h.2.2.2.2.1) h2, fun c j q => h1 c j (by omega)⟩
end CLS4
