/-! the reference's calls (3): sheets, parts -/
theorem MI.shW {I I' : qI} {m : Nat} {V V' : VV} (h : MI I m V) (hV : V'.T = V.T ∧ V'.C = V.C ∧ V'.la = V.la ∧ V'.ni = V.ni ∧ V'.tr = V.tr) (hI : ∀ b i, ¬ (b = m ∧ i = 0) → ¬ (m + 1 ≤ b ∧ b ≤ m + 3) → I' b i = I b i) (e0 : I' m 0 = V'.fa) (hS : mSh I' m V') (hok : V'.shok) : MI I' m V' := by
  obtain ⟨h1, h2, h3, h4, h5, h6, h7⟩ := h
  obtain ⟨v1, v2, v3, v4, v5⟩ := hV
  exact ⟨⟨hok, by rw [v1, v2, v3]; exact h1.2⟩, by rw [hI _ _ (by omega) (by omega), v4]; exact h2, by rw [hI _ _ (by omega) (by omega), v5]; exact h3, e0, hS, by rw [v1]; exact h6.cg (fun b i q => hI b i (by omega) (by omega)), fun q => by rw [v1, v2, v3]; exact (h7 (by rw [← v1]; exact q)).cg (fun b i q => hI b i (by omega) (by omega))⟩
theorem MI.sh {I : qI} {m : Nat} {V : VV} (h : MI I m V) : mSh I m V := h.2.2.2.2.1
theorem mSh.rg {I : qI} {m : Nat} {V : VV} (h : mSh I m V) (hV : V.shok) {k : Int} (k0 : 0 ≤ k) (k1 : k < 4) : (I (m + 1) k = -9 ∧ V.th k ≠ 1) ∨ (I (m + 1) k = V.so k ∧ V.th k = 1 ∧ 0 ≤ V.so k ∧ V.so k ≤ 2) := by
  obtain ⟨a1, -, -⟩ := h k k0 k1
  obtain ⟨b1, -⟩ := hV k k0 k1
  rcases b1 with q | q
  · rw [if_neg (by omega)] at a1
    exact Or.inl ⟨a1, by omega⟩
  · rw [if_pos (by omega)] at a1
    exact Or.inr ⟨a1, q⟩
section MOD3
variable {l : Launch} {E : qEv} {n : Nat} {sh : qSh} {I L : qI} {R : qR}
theorem up2_0 {x : Nat} (f g : Int) : up (up I x 0 f) x 0 g = up I x 0 g := funext fun b => funext fun j => by
  unfold up
  split <;> rfl
theorem om_sheet {m : Nat} {V : VV} {k so z : Int} (hM : qMod E.2.2 n sh R m) (h : MI I m V) (hk : in32 k) (hso : in32 so) (hz : in32 z) :
    Ct l E 2 mX7_sheet [.ref m, .int (zI k), .int (zI so), .int (zI z)] (n, sh, I, L, R) 0 0 (qZ n sh (mpZ m I L R (r_sheet k so z) (s_sheet V k so z))) := by
  have loop : (0 ≤ k ∧ k < 4) → (0 ≤ so ∧ so ≤ 2) → (0 ≤ z ∧ z ≤ 100) → ∀ i : Nat, i ≤ 100 → ∀ I1 : qI, ((∀ b j, b ≠ m + 3 → I1 b j = up (up (up I m 0 0) (m + 1) k so) (m + 2) k z b j) ∧ (∀ j : Int, 100 * k ≤ j → j < 100 * k + i → I1 (m + 3) j = 0) ∧ ∀ j : Int, ¬ (100 * k ≤ j ∧ j < 100 * k + i) → I1 (m + 3) j = I (m + 3) j) → Wk l E (qmo E 2 n 0 0 (qZ n sh (mpZ m I L R (r_sheet k so z) (s_sheet V k so z)))) mX7_sheet 0 0 57
      [(0, .ref m), (1, .int (zI k)), (2, .int (zI so)), (3, .int (zI z)), (4, .int (zI (i : Int)))] [] (n, sh, I1, L, R) := by
    intro hk4 hso2 hz2
    refine up_ind 100 ?_ ?_
    · rintro I1 ⟨f1, f2, f3⟩
      refine wk_iload (i := 4) (q := 59) dX7_sheet_57 rfl rfl ?_
      refine wk_bipush (q := 61) dX7_sheet_59 rfl (by decide +kernel) ?_
      refine wk_icmp_ge (t := 83) (q := 64) dX7_sheet_61 rfl rfl (by omega) (by omega) (fun hc61 => ?_) (fun hc61 => ?_)
      · refine wk_iconst (q := 84) dX7_sheet_83 rfl ?_
        refine wk_iret dX7_sheet_84 rfl ⟨Nat.le_refl _, Nat.le_refl _⟩ rfl ?_
        refine ⟨_, _, _, _, rfl, rfl, ?_, ?_, fun b i q => ?_, rfl, rfl⟩
        · unfold r_sheet
          rw [if_neg (by omega), if_neg (by omega), if_neg (by omega)]
        · have hs : s_sheet V k so z = (V.setFa 0).setSh (u1 V.th k 1) (u1 V.so k so) (u1 V.sl k z) (fun a i => if a = k then 0 else V.ce a i) := by
            unfold s_sheet
            rw [if_neg (by omega), if_neg (by omega), if_neg (by omega)]
          rw [hs]
          refine h.shW ⟨rfl, rfl, rfl, rfl, rfl⟩ (fun b i q1 q2 => by rw [f1 _ _ (by omega), up_na _ _ _ _ (by omega), up_na _ _ _ _ (by omega), up_off (by omega)]) (by rw [f1 _ _ (by omega), up_na _ _ _ _ (by omega), up_na _ _ _ _ (by omega), up_eq]; rfl) (fun a a0 a1 => ?_) (fun a a0 a1 => ?_)
          · obtain ⟨w1, w2, w3⟩ := h.sh a a0 a1
            show _ = (if u1 V.th k 1 a = 1 then u1 V.so k so a else -9) ∧ _ = u1 V.sl k z a ∧ ∀ i, 0 ≤ i → i < 100 → _ = if a = k then 0 else V.ce a i
            by_cases hq : a = k
            · rw [hq, u1_eq, u1_eq, u1_eq]
              exact ⟨by rw [f1 _ _ (by omega), up_na _ _ _ _ (by omega), up_eq, if_pos rfl], by rw [f1 _ _ (by omega), up_eq], fun i i0 i1 => by rw [f2 _ (by omega) (by omega), if_pos rfl]⟩
            · rw [u1_ne hq, u1_ne hq, u1_ne hq]
              exact ⟨by rw [f1 _ _ (by omega), up_na _ _ _ _ (by omega), up_ni _ _ hq, up_na _ _ _ _ (by omega)]; exact w1, by rw [f1 _ _ (by omega), up_ni _ _ hq, up_na _ _ _ _ (by omega), up_na _ _ _ _ (by omega)]; exact w2, fun i i0 i1 => by rw [f3 _ (by omega), if_neg hq]; exact w3 i i0 i1⟩
          · obtain ⟨w1, w2, w3, w4, w5⟩ := h.1.1 a a0 a1
            show (u1 V.th k 1 a = 0 ∨ (u1 V.th k 1 a = 1 ∧ 0 ≤ u1 V.so k so a ∧ u1 V.so k so a ≤ 2)) ∧ in32 (u1 V.so k so a) ∧ 0 ≤ u1 V.sl k z a ∧ u1 V.sl k z a ≤ 100 ∧ ∀ i, 0 ≤ i → i < 100 → in32 (if a = k then 0 else V.ce a i)
            by_cases hq : a = k
            · rw [hq, u1_eq, u1_eq, u1_eq]
              exact ⟨Or.inr ⟨rfl, by omega, by omega⟩, by omega, by omega, by omega, fun i i0 i1 => by rw [if_pos rfl]; omega⟩
            · rw [u1_ne hq, u1_ne hq, u1_ne hq]
              exact ⟨w1, w2, w3, w4, fun i i0 i1 => by rw [if_neg hq]; exact w5 i i0 i1⟩
        · rw [f1 _ _ (by omega), up_na _ _ _ _ (by omega), up_na _ _ _ _ (by omega), up_na _ _ _ _ (by omega)]
      · omega
    · rintro i hi ih I1 ⟨f1, f2, f3⟩
      refine wk_iload (i := 4) (q := 59) dX7_sheet_57 rfl rfl ?_
      refine wk_bipush (q := 61) dX7_sheet_59 rfl (by decide +kernel) ?_
      refine wk_icmp_ge (t := 83) (q := 64) dX7_sheet_61 rfl rfl (by omega) (by omega) (fun hc61 => ?_) (fun hc61 => ?_)
      · omega
      · refine wk_aload_n (i := 0) (q := 65) dX7_sheet_64 rfl rfl rfl ?_
        refine wk_getR (fi := 4) (q := 68) dX7_sheet_65 rfl fl_X7_16 rfl rfl hM.ob hM.r4 ?_
        refine wk_bipush (q := 70) dX7_sheet_68 rfl (by decide +kernel) ?_
        refine wk_iload_n (i := 1) (q := 71) dX7_sheet_70 rfl rfl rfl ?_
        refine wk_imul (q := 72) dX7_sheet_71 rfl ?_
        refine wk_iload (i := 4) (q := 74) dX7_sheet_72 rfl rfl ?_
        refine wk_iadd (q := 75) dX7_sheet_74 rfl ?_
        refine wk_iconst (q := 76) dX7_sheet_75 rfl ?_
        refine wk_iast (q := 77) dX7_sheet_76 rfl hM.s4 (by omega) ?_
        refine wk_iinc (lo' := [(0, _), (1, _), (2, _), (3, _), (4, _)]) (q := 80) dX7_sheet_77 rfl rfl (by decide) rfl ?_
        refine wk_goto (t := 57) dX7_sheet_80 rfl ?_
        refine ih _ ⟨fun b j q => by rw [up_na _ _ _ _ q]; exact f1 b j q, fun j j0 j1 => ?_, fun j q => by rw [up_ni _ _ (by omega)]; exact f3 j (by omega)⟩
        by_cases hq : j = 100 * k + i
        · rw [hq, up_eq]
        · rw [up_ni _ _ hq]
          exact f2 j j0 (by omega)
  refine Ct.of (lo := [(0, _), (1, _), (2, _), (3, _)]) ok_X7_sheet (Nat.le_of_ble_eq_true rfl) rfl ?_
  refine wk_aload_n (i := 0) (q := 1) dX7_sheet_0 rfl rfl rfl ?_
  refine wk_iconst (q := 2) dX7_sheet_1 rfl ?_
  refine wk_putI (fi := 0) (q := 5) dX7_sheet_2 rfl fl_X7_115 fw_7_0 rfl rfl hM.ob ?_
  refine wk_iload_n (i := 1) (q := 6) dX7_sheet_5 rfl rfl rfl ?_
  refine wk_sP1 (q := 9) dX7_sheet_6 rfl sl_X7_134 (ct_X7_isSheet hk) (qRo_m ok_X7_isSheet (by decide) (Nat.le_refl _) (Nat.le_refl _)) (Nat.le_of_ble_eq_true rfl) (fun v6 hv6 => ?_)
  rcases hv6 with ⟨rfl, hv6⟩ | ⟨rfl, hv6⟩
  · refine wk_if_ne (t := 14) (q := 12) dX7_sheet_9 rfl rfl (by omega) (fun _ => ?_) (fun hq => absurd hq (by decide))
    refine wk_iload_n (i := 2) (q := 15) dX7_sheet_14 rfl rfl rfl ?_
    refine wk_sP1 (q := 18) dX7_sheet_15 rfl sl_X7_138 (ct_X7_isSort hso) (qRo_m ok_X7_isSort (by decide) (Nat.le_refl _) (Nat.le_refl _)) (Nat.le_of_ble_eq_true rfl) (fun v15 hv15 => ?_)
    rcases hv15 with ⟨rfl, hv15⟩ | ⟨rfl, hv15⟩
    · refine wk_if_eq (t := 27) (q := 21) dX7_sheet_18 rfl rfl (by omega) (fun hq => absurd hq (by decide)) (fun _ => ?_)
      refine wk_iload_n (i := 3) (q := 22) dX7_sheet_21 rfl rfl rfl ?_
      refine wk_bipush (q := 24) dX7_sheet_22 rfl (by decide +kernel) ?_
      refine wk_icmp_le (t := 30) (q := 27) dX7_sheet_24 rfl rfl (by omega) (by omega) (fun hc24 => ?_) (fun hc24 => ?_)
      · refine wk_iload_n (i := 3) (q := 31) dX7_sheet_30 rfl rfl rfl ?_
        refine wk_if_ge (t := 40) (q := 34) dX7_sheet_31 rfl rfl (by omega) (fun hc31 => ?_) (fun hc31 => ?_)
        · refine wk_aload_n (i := 0) (q := 41) dX7_sheet_40 rfl rfl rfl ?_
          refine wk_getR (fi := 2) (q := 44) dX7_sheet_41 rfl fl_X7_9 rfl rfl hM.ob hM.r2 ?_
          refine wk_iload_n (i := 1) (q := 45) dX7_sheet_44 rfl rfl rfl ?_
          refine wk_iload_n (i := 2) (q := 46) dX7_sheet_45 rfl rfl rfl ?_
          refine wk_iast (q := 47) dX7_sheet_46 rfl hM.s2 (by omega) ?_
          refine wk_aload_n (i := 0) (q := 48) dX7_sheet_47 rfl rfl rfl ?_
          refine wk_getR (fi := 3) (q := 51) dX7_sheet_48 rfl fl_X7_13 rfl rfl hM.ob hM.r3 ?_
          refine wk_iload_n (i := 1) (q := 52) dX7_sheet_51 rfl rfl rfl ?_
          refine wk_iload_n (i := 3) (q := 53) dX7_sheet_52 rfl rfl rfl ?_
          refine wk_iast (q := 54) dX7_sheet_53 rfl hM.s3 (by omega) ?_
          refine wk_iconst (q := 55) dX7_sheet_54 rfl ?_
          refine wk_istore (i := 4) (lo' := [(0, _), (1, _), (2, _), (3, _), (4, _)]) (q := 57) dX7_sheet_55 rfl (by decide) rfl ?_
          exact loop hv6 hv15 (by omega) 0 (Nat.zero_le _) _ ⟨fun _ _ _ => rfl, fun j j0 j1 => by omega, fun j q => by rw [up_na _ _ _ _ (by omega), up_na _ _ _ _ (by omega), up_na _ _ _ _ (by omega)]⟩
        · refine wk_aload_n (i := 0) (q := 35) dX7_sheet_34 rfl rfl rfl ?_
          refine wk_iconst (q := 36) dX7_sheet_35 rfl ?_
          refine wk_cZ1 (q := 39) dX7_sheet_36 rfl vl_X7_145 ⟨_, _, rfl⟩ hM.ob (ct_X7_fails hM) (qRo_m ok_X7_fails (by decide) (Nat.le_refl _) (Nat.le_refl _)) (Nat.le_of_ble_eq_true rfl) (fun v36 I36 L36 R36 hv36 => ?_)
          obtain ⟨rfl, rfl, rfl, rfl⟩ := hv36
          rw [up2_0]
          refine wk_iret dX7_sheet_39 rfl ⟨Nat.le_refl _, Nat.le_refl _⟩ rfl ?_
          refine mp_fault h rfl ?_ ?_
          · unfold s_sheet
            first
              | rw [if_pos (by omega)]
              | rw [if_neg (by omega), if_pos (by omega)]
              | rw [if_neg (by omega), if_neg (by omega), if_pos (by omega)]
          · unfold r_sheet
            first
              | rw [if_pos (by omega)]
              | rw [if_neg (by omega), if_pos (by omega)]
              | (rw [if_neg (by omega), if_neg (by omega), if_pos (by omega)]; omega)
      · refine wk_bipush (q := 29) dX7_sheet_27 rfl (by decide +kernel) ?_
        refine wk_iret dX7_sheet_29 rfl ⟨Nat.le_refl _, Nat.le_refl _⟩ rfl ?_
        refine mp_fault h rfl ?_ ?_
        · unfold s_sheet
          first
            | rw [if_pos (by omega)]
            | rw [if_neg (by omega), if_pos (by omega)]
            | rw [if_neg (by omega), if_neg (by omega), if_pos (by omega)]
        · unfold r_sheet
          first
            | rw [if_pos (by omega)]
            | rw [if_neg (by omega), if_pos (by omega)]
            | (rw [if_neg (by omega), if_neg (by omega), if_pos (by omega)]; omega)
    · refine wk_if_eq (t := 27) (q := 21) dX7_sheet_18 rfl rfl (by omega) (fun _ => ?_) (fun hq => absurd hq (by decide))
      refine wk_bipush (q := 29) dX7_sheet_27 rfl (by decide +kernel) ?_
      refine wk_iret dX7_sheet_29 rfl ⟨Nat.le_refl _, Nat.le_refl _⟩ rfl ?_
      refine mp_fault h rfl ?_ ?_
      · unfold s_sheet
        first
          | rw [if_pos (by omega)]
          | rw [if_neg (by omega), if_pos (by omega)]
          | rw [if_neg (by omega), if_neg (by omega), if_pos (by omega)]
      · unfold r_sheet
        first
          | rw [if_pos (by omega)]
          | rw [if_neg (by omega), if_pos (by omega)]
          | (rw [if_neg (by omega), if_neg (by omega), if_pos (by omega)]; omega)
  · refine wk_if_ne (t := 14) (q := 12) dX7_sheet_9 rfl rfl (by omega) (fun hq => absurd hq (by decide)) (fun _ => ?_)
    refine wk_iconst (q := 13) dX7_sheet_12 rfl ?_
    refine wk_iret dX7_sheet_13 rfl ⟨Nat.le_refl _, Nat.le_refl _⟩ rfl ?_
    refine mp_fault h rfl ?_ ?_
    · unfold s_sheet
      first
        | rw [if_pos (by omega)]
        | rw [if_neg (by omega), if_pos (by omega)]
        | rw [if_neg (by omega), if_neg (by omega), if_pos (by omega)]
    · unfold r_sheet
      first
        | rw [if_pos (by omega)]
        | rw [if_neg (by omega), if_pos (by omega)]
        | (rw [if_neg (by omega), if_neg (by omega), if_pos (by omega)]; omega)
theorem om_lose {m : Nat} {V : VV} {k : Int} (hM : qMod E.2.2 n sh R m) (h : MI I m V) (hk : in32 k) :
    Ct l E 2 mX7_lose [.ref m, .int (zI k)] (n, sh, I, L, R) 0 0 (qZ n sh (mpZ m I L R (r_lose V k) (s_lose V k))) := by
  have wr : 0 ≤ k ∧ k < 4 → MI (up I (m + 1) k (-9)) m (s_lose V k) := by
    intro hkk
    have hs : s_lose V k = V.setSh (u1 V.th k 0) V.so V.sl V.ce := by
      unfold s_lose
      rw [if_neg (by omega)]
    rw [hs]
    refine h.shW ⟨rfl, rfl, rfl, rfl, rfl⟩ (fun b i q1 q2 => by rw [up_na _ _ _ _ (by omega)]) (by rw [up_na _ _ _ _ (by omega)]; exact h.2.2.2.1) (fun a a0 a1 => ?_) (fun a a0 a1 => ?_)
    · obtain ⟨w1, w2, w3⟩ := h.sh a a0 a1
      show _ = (if u1 V.th k 0 a = 1 then V.so a else -9) ∧ _ = V.sl a ∧ ∀ i, 0 ≤ i → i < 100 → _ = V.ce a i
      refine ⟨?_, by rw [up_na _ _ _ _ (by omega)]; exact w2, fun i i0 i1 => by rw [up_na _ _ _ _ (by omega)]; exact w3 i i0 i1⟩
      by_cases hq : a = k
      · rw [hq, up_eq, u1_eq, if_neg (by omega)]
      · rw [up_ni _ _ hq, u1_ne hq]
        exact w1
    · obtain ⟨w1, w2, w3, w4, w5⟩ := h.1.1 a a0 a1
      show (u1 V.th k 0 a = 0 ∨ (u1 V.th k 0 a = 1 ∧ 0 ≤ V.so a ∧ V.so a ≤ 2)) ∧ in32 (V.so a) ∧ 0 ≤ V.sl a ∧ V.sl a ≤ 100 ∧ ∀ i, 0 ≤ i → i < 100 → in32 (V.ce a i)
      refine ⟨?_, w2, w3, w4, w5⟩
      by_cases hq : a = k
      · rw [hq, u1_eq]
        exact Or.inl rfl
      · rw [u1_ne hq]
        exact w1
  refine Ct.of (lo := [(0, _), (1, _)]) ok_X7_lose (Nat.le_of_ble_eq_true rfl) rfl ?_
  refine wk_iload_n (i := 1) (q := 1) dX7_lose_0 rfl rfl rfl ?_
  refine wk_sP1 (q := 4) dX7_lose_1 rfl sl_X7_134 (ct_X7_isSheet hk) (qRo_m ok_X7_isSheet (by decide) (Nat.le_refl _) (Nat.le_refl _)) (Nat.le_of_ble_eq_true rfl) (fun v1 hv1 => ?_)
  rcases hv1 with ⟨rfl, hv1⟩ | ⟨rfl, hv1⟩
  · refine wk_if_ne (t := 9) (q := 7) dX7_lose_4 rfl rfl (by omega) (fun _ => ?_) (fun hq => absurd hq (by decide))
    refine wk_aload_n (i := 0) (q := 10) dX7_lose_9 rfl rfl rfl ?_
    refine wk_getR (fi := 2) (q := 13) dX7_lose_10 rfl fl_X7_9 rfl rfl hM.ob hM.r2 ?_
    refine wk_iload_n (i := 1) (q := 14) dX7_lose_13 rfl rfl rfl ?_
    refine wk_iald (q := 15) dX7_lose_14 rfl hM.s2 (by omega) ?_
    refine wk_bipush (q := 17) dX7_lose_15 rfl (by decide +kernel) ?_
    have s1 := h.sh.rg h.1.1 hv1.1 hv1.2
    refine wk_icmp_ne (t := 24) (q := 20) dX7_lose_17 rfl rfl (by omega) (by omega) (fun hc17 => ?_) (fun hc17 => ?_)
    · refine wk_iconst (q := 25) dX7_lose_24 rfl ?_
      refine wk_istore_n (i := 2) (lo' := [(0, _), (1, _), (2, _)]) (q := 26) dX7_lose_25 rfl rfl (by decide) rfl ?_
      refine wk_aload_n (i := 0) (q := 27) dX7_lose_26 rfl rfl rfl ?_
      refine wk_getR (fi := 2) (q := 30) dX7_lose_27 rfl fl_X7_9 rfl rfl hM.ob hM.r2 ?_
      refine wk_iload_n (i := 1) (q := 31) dX7_lose_30 rfl rfl rfl ?_
      refine wk_bipush (q := 33) dX7_lose_31 rfl (by decide +kernel) ?_
      refine wk_iast (q := 34) dX7_lose_33 rfl hM.s2 (by omega) ?_
      refine wk_iload_n (i := 2) (q := 35) dX7_lose_34 rfl rfl rfl ?_
      refine wk_iret dX7_lose_35 rfl ⟨Nat.le_refl _, Nat.le_refl _⟩ rfl ?_
      refine ⟨_, _, _, _, rfl, rfl, ?_, wr hv1, frO_up _ _ (by omega), rfl, rfl⟩
      unfold r_lose
      first
        | rw [if_neg (by omega), if_neg (by omega)]
        | rw [if_neg (by omega), if_pos (by omega)]
    · refine wk_iconst (q := 21) dX7_lose_20 rfl ?_
      refine wk_goto (t := 25) dX7_lose_21 rfl ?_
      refine wk_istore_n (i := 2) (lo' := [(0, _), (1, _), (2, _)]) (q := 26) dX7_lose_25 rfl rfl (by decide) rfl ?_
      refine wk_aload_n (i := 0) (q := 27) dX7_lose_26 rfl rfl rfl ?_
      refine wk_getR (fi := 2) (q := 30) dX7_lose_27 rfl fl_X7_9 rfl rfl hM.ob hM.r2 ?_
      refine wk_iload_n (i := 1) (q := 31) dX7_lose_30 rfl rfl rfl ?_
      refine wk_bipush (q := 33) dX7_lose_31 rfl (by decide +kernel) ?_
      refine wk_iast (q := 34) dX7_lose_33 rfl hM.s2 (by omega) ?_
      refine wk_iload_n (i := 2) (q := 35) dX7_lose_34 rfl rfl rfl ?_
      refine wk_iret dX7_lose_35 rfl ⟨Nat.le_refl _, Nat.le_refl _⟩ rfl ?_
      refine ⟨_, _, _, _, rfl, rfl, ?_, wr hv1, frO_up _ _ (by omega), rfl, rfl⟩
      unfold r_lose
      first
        | rw [if_neg (by omega), if_neg (by omega)]
        | rw [if_neg (by omega), if_pos (by omega)]
  · refine wk_if_ne (t := 9) (q := 7) dX7_lose_4 rfl rfl (by omega) (fun hq => absurd hq (by decide)) (fun _ => ?_)
    refine wk_iconst (q := 8) dX7_lose_7 rfl ?_
    refine wk_iret dX7_lose_8 rfl ⟨Nat.le_refl _, Nat.le_refl _⟩ rfl ?_
    refine mp_same h ?_ ?_
    · unfold s_lose
      rw [if_pos hv1]
    · unfold r_lose
      rw [if_pos hv1]
theorem om_put {m : Nat} {V : VV} {k i v : Int} (hM : qMod E.2.2 n sh R m) (h : MI I m V) (hk : in32 k) (hi : in32 i) (hv : in32 v) :
    Ct l E 2 mX7_put [.ref m, .int (zI k), .int (zI i), .int (zI v)] (n, sh, I, L, R) 0 0 (qZ n sh (mpZ m I L R (r_put V k i) (s_put V k i v))) := by
  have wr : (0 ≤ k ∧ k < 4) → V.th k = 1 → (0 ≤ i ∧ i < V.sl k) → ∀ c : Int, c = cutS (V.so k) v → ∃ v' I2 L2 R2, some (Value.int (zI 1)) = some (.int (zI v')) ∧ (n, sh, up (up I m 0 0) (m + 3) (100 * k + i) c, L, R) = (n, sh, I2, L2, R2) ∧ mpZ m I L R (r_put V k i) (s_put V k i v) v' I2 L2 R2 := by
    rintro hkk ht hii c rfl
    have hsl := (h.1.1 k hkk.1 hkk.2).2.2.2.1
    have hs : s_put V k i v = (V.setFa 0).setSh V.th V.so V.sl (u2 V.ce k i (cutS (V.so k) v)) := by
      unfold s_put
      rw [if_neg (by omega), if_neg (by omega), if_pos (by omega)]
    refine ⟨_, _, _, _, rfl, rfl, ?_, ?_, fun c j q => by rw [up_na _ _ _ _ (by omega), up_na _ _ _ _ (by omega)], rfl, rfl⟩
    · unfold r_put
      rw [if_neg (by omega), if_neg (by omega), if_pos (by omega)]
    · rw [hs]
      refine h.shW ⟨rfl, rfl, rfl, rfl, rfl⟩ (fun b j q1 q2 => by rw [up_na _ _ _ _ (by omega), up_off (by omega)]) (by rw [up_na _ _ _ _ (by omega), up_eq]; rfl) (fun a a0 a1 => ?_) (fun a a0 a1 => ?_)
      · obtain ⟨w1, w2, w3⟩ := h.sh a a0 a1
        show _ = (if V.th a = 1 then V.so a else -9) ∧ _ = V.sl a ∧ ∀ j, 0 ≤ j → j < 100 → _ = u2 V.ce k i (cutS (V.so k) v) a j
        refine ⟨by rw [up_na _ _ _ _ (by omega), up_na _ _ _ _ (by omega)]; exact w1, by rw [up_na _ _ _ _ (by omega), up_na _ _ _ _ (by omega)]; exact w2, fun j j0 j1 => ?_⟩
        by_cases hq : a = k ∧ j = i
        · rw [hq.1, hq.2, up_eq, u2_eq]
        · rw [u2_ne (by omega), up_off (by omega), up_na _ _ _ _ (by omega)]
          exact w3 j j0 j1
      · obtain ⟨y1, y2, y3, y4, y5⟩ := h.1.1 a a0 a1
        refine ⟨y1, y2, y3, y4, fun j j0 j1 => ?_⟩
        show in32 (u2 V.ce k i (cutS (V.so k) v) a j)
        by_cases hq : a = k ∧ j = i
        · rw [hq.1, hq.2, u2_eq]
          exact cutS_in hv
        · rw [u2_ne (by omega)]
          exact y5 j j0 j1
  refine Ct.of (lo := [(0, _), (1, _), (2, _), (3, _)]) ok_X7_put (Nat.le_of_ble_eq_true rfl) rfl ?_
  refine wk_aload_n (i := 0) (q := 1) dX7_put_0 rfl rfl rfl ?_
  refine wk_iconst (q := 2) dX7_put_1 rfl ?_
  refine wk_putI (fi := 0) (q := 5) dX7_put_2 rfl fl_X7_115 fw_7_0 rfl rfl hM.ob ?_
  refine wk_iload_n (i := 1) (q := 6) dX7_put_5 rfl rfl rfl ?_
  refine wk_sP1 (q := 9) dX7_put_6 rfl sl_X7_134 (ct_X7_isSheet hk) (qRo_m ok_X7_isSheet (by decide) (Nat.le_refl _) (Nat.le_refl _)) (Nat.le_of_ble_eq_true rfl) (fun v6 hv6 => ?_)
  rcases hv6 with ⟨rfl, hv6⟩ | ⟨rfl, hv6⟩
  · refine wk_if_ne (t := 14) (q := 12) dX7_put_9 rfl rfl (by omega) (fun _ => ?_) (fun hq => absurd hq (by decide))
    refine wk_aload_n (i := 0) (q := 15) dX7_put_14 rfl rfl rfl ?_
    refine wk_getR (fi := 2) (q := 18) dX7_put_15 rfl fl_X7_9 rfl rfl hM.ob hM.r2 ?_
    refine wk_iload_n (i := 1) (q := 19) dX7_put_18 rfl rfl rfl ?_
    refine wk_iald (q := 20) dX7_put_19 rfl hM.s2 (by omega) ?_
    refine wk_bipush (q := 22) dX7_put_20 rfl (by decide +kernel) ?_
    have s1 := h.sh.rg h.1.1 hv6.1 hv6.2
    rw [up_na _ _ _ _ (by omega)]
    refine wk_icmp_ne (t := 31) (q := 25) dX7_put_22 rfl rfl (by omega) (by omega) (fun hc22 => ?_) (fun hc22 => ?_)
    · refine wk_iload_n (i := 2) (q := 32) dX7_put_31 rfl rfl rfl ?_
      refine wk_iconst (q := 33) dX7_put_32 rfl ?_
      refine wk_aload_n (i := 0) (q := 34) dX7_put_33 rfl rfl rfl ?_
      refine wk_getR (fi := 3) (q := 37) dX7_put_34 rfl fl_X7_13 rfl rfl hM.ob hM.r3 ?_
      refine wk_iload_n (i := 1) (q := 38) dX7_put_37 rfl rfl rfl ?_
      refine wk_iald (q := 39) dX7_put_38 rfl hM.s3 (by omega) ?_
      refine wk_iconst (q := 40) dX7_put_39 rfl ?_
      have s2 := (h.sh k hv6.1 hv6.2).2.1
      have s3 := h.1.1 k hv6.1 hv6.2
      rw [up_na _ _ _ _ (by omega), s2]
      refine wk_isub (q := 41) dX7_put_40 rfl ?_
      refine wk_sP3 (q := 44) dX7_put_41 rfl sl_X7_121 (ct_X7_within hi (by omega) (by omega)) (qRo_m ok_X7_within (by decide) (Nat.le_refl _) (Nat.le_refl _)) (Nat.le_of_ble_eq_true rfl) (fun v41 hv41 => ?_)
      rcases hv41 with ⟨rfl, hv41⟩ | ⟨rfl, hv41⟩
      · refine wk_if_ne (t := 53) (q := 47) dX7_put_44 rfl rfl (by omega) (fun _ => ?_) (fun hq => absurd hq (by decide))
        refine wk_aload_n (i := 0) (q := 54) dX7_put_53 rfl rfl rfl ?_
        refine wk_getR (fi := 4) (q := 57) dX7_put_54 rfl fl_X7_16 rfl rfl hM.ob hM.r4 ?_
        refine wk_bipush (q := 59) dX7_put_57 rfl (by decide +kernel) ?_
        refine wk_iload_n (i := 1) (q := 60) dX7_put_59 rfl rfl rfl ?_
        refine wk_imul (q := 61) dX7_put_60 rfl ?_
        refine wk_iload_n (i := 2) (q := 62) dX7_put_61 rfl rfl rfl ?_
        refine wk_iadd (q := 63) dX7_put_62 rfl ?_
        refine wk_aload_n (i := 0) (q := 64) dX7_put_63 rfl rfl rfl ?_
        refine wk_getR (fi := 2) (q := 67) dX7_put_64 rfl fl_X7_9 rfl rfl hM.ob hM.r2 ?_
        refine wk_iload_n (i := 1) (q := 68) dX7_put_67 rfl rfl rfl ?_
        refine wk_iald (q := 69) dX7_put_68 rfl hM.s2 (by omega) ?_
        rw [up_na _ _ _ _ (by omega)]
        refine wk_if_ne (t := 77) (q := 72) dX7_put_69 rfl rfl (by omega) (fun hc69 => ?_) (fun hc69 => ?_)
        · refine wk_aload_n (i := 0) (q := 78) dX7_put_77 rfl rfl rfl ?_
          refine wk_getR (fi := 2) (q := 81) dX7_put_78 rfl fl_X7_9 rfl rfl hM.ob hM.r2 ?_
          refine wk_iload_n (i := 1) (q := 82) dX7_put_81 rfl rfl rfl ?_
          refine wk_iald (q := 83) dX7_put_82 rfl hM.s2 (by omega) ?_
          refine wk_iconst (q := 84) dX7_put_83 rfl ?_
          rw [up_na _ _ _ _ (by omega)]
          refine wk_icmp_ne (t := 92) (q := 87) dX7_put_84 rfl rfl (by omega) (by omega) (fun hc84 => ?_) (fun hc84 => ?_)
          · refine wk_iload_n (i := 3) (q := 93) dX7_put_92 rfl rfl rfl ?_
            refine wk_iast (q := 94) dX7_put_93 rfl hM.s4 (by omega) ?_
            refine wk_iconst (q := 95) dX7_put_94 rfl ?_
            refine wk_iret dX7_put_95 rfl ⟨Nat.le_refl _, Nat.le_refl _⟩ rfl ?_
            refine wr hv6 (by omega) (by omega) _ ?_
            unfold cutS
            first
              | rw [if_pos (by omega)]
              | rw [if_neg (by omega), if_pos (by omega)]
              | rw [if_neg (by omega), if_neg (by omega)]
          · refine wk_iload_n (i := 3) (q := 88) dX7_put_87 rfl rfl rfl ?_
            refine wk_i2s (q := 89) dX7_put_88 rfl ?_
            refine wk_goto (t := 93) dX7_put_89 rfl ?_
            refine wk_iast (q := 94) dX7_put_93 rfl hM.s4 (by omega) ?_
            refine wk_iconst (q := 95) dX7_put_94 rfl ?_
            refine wk_iret dX7_put_95 rfl ⟨Nat.le_refl _, Nat.le_refl _⟩ rfl ?_
            refine wr hv6 (by omega) (by omega) _ ?_
            unfold cutS
            first
              | rw [if_pos (by omega)]
              | rw [if_neg (by omega), if_pos (by omega)]
              | rw [if_neg (by omega), if_neg (by omega)]
        · refine wk_iload_n (i := 3) (q := 73) dX7_put_72 rfl rfl rfl ?_
          refine wk_i2b (q := 74) dX7_put_73 rfl ?_
          refine wk_goto (t := 93) dX7_put_74 rfl ?_
          refine wk_iast (q := 94) dX7_put_93 rfl hM.s4 (by omega) ?_
          refine wk_iconst (q := 95) dX7_put_94 rfl ?_
          refine wk_iret dX7_put_95 rfl ⟨Nat.le_refl _, Nat.le_refl _⟩ rfl ?_
          refine wr hv6 (by omega) (by omega) _ ?_
          unfold cutS
          first
            | rw [if_pos (by omega)]
            | rw [if_neg (by omega), if_pos (by omega)]
            | rw [if_neg (by omega), if_neg (by omega)]
      · refine wk_if_ne (t := 53) (q := 47) dX7_put_44 rfl rfl (by omega) (fun hq => absurd hq (by decide)) (fun _ => ?_)
        refine wk_aload_n (i := 0) (q := 48) dX7_put_47 rfl rfl rfl ?_
        refine wk_iconst (q := 49) dX7_put_48 rfl ?_
        refine wk_cZ1 (q := 52) dX7_put_49 rfl vl_X7_145 ⟨_, _, rfl⟩ hM.ob (ct_X7_fails hM) (qRo_m ok_X7_fails (by decide) (Nat.le_refl _) (Nat.le_refl _)) (Nat.le_of_ble_eq_true rfl) (fun v49 I49 L49 R49 hv49 => ?_)
        obtain ⟨rfl, rfl, rfl, rfl⟩ := hv49
        rw [up2_0]
        refine wk_iret dX7_put_52 rfl ⟨Nat.le_refl _, Nat.le_refl _⟩ rfl ?_
        refine mp_fault h rfl ?_ ?_
        · unfold s_put
          first
            | rw [if_pos hv6]
            | rw [if_neg (by omega), if_pos (by omega)]
            | rw [if_neg (by omega), if_neg (by omega), if_neg (by omega)]
        · unfold r_put
          first
            | rw [if_pos hv6]
            | (rw [if_neg (by omega), if_pos (by omega)]; omega)
            | (rw [if_neg (by omega), if_neg (by omega), if_neg (by omega)]; omega)
    · refine wk_aload_n (i := 0) (q := 26) dX7_put_25 rfl rfl rfl ?_
      refine wk_iconst (q := 27) dX7_put_26 rfl ?_
      refine wk_cZ1 (q := 30) dX7_put_27 rfl vl_X7_145 ⟨_, _, rfl⟩ hM.ob (ct_X7_fails hM) (qRo_m ok_X7_fails (by decide) (Nat.le_refl _) (Nat.le_refl _)) (Nat.le_of_ble_eq_true rfl) (fun v27 I27 L27 R27 hv27 => ?_)
      obtain ⟨rfl, rfl, rfl, rfl⟩ := hv27
      rw [up2_0]
      refine wk_iret dX7_put_30 rfl ⟨Nat.le_refl _, Nat.le_refl _⟩ rfl ?_
      refine mp_fault h rfl ?_ ?_
      · unfold s_put
        first
          | rw [if_pos hv6]
          | rw [if_neg (by omega), if_pos (by omega)]
          | rw [if_neg (by omega), if_neg (by omega), if_neg (by omega)]
      · unfold r_put
        first
          | rw [if_pos hv6]
          | (rw [if_neg (by omega), if_pos (by omega)]; omega)
          | (rw [if_neg (by omega), if_neg (by omega), if_neg (by omega)]; omega)
  · refine wk_if_ne (t := 14) (q := 12) dX7_put_9 rfl rfl (by omega) (fun hq => absurd hq (by decide)) (fun _ => ?_)
    refine wk_iconst (q := 13) dX7_put_12 rfl ?_
    refine wk_iret dX7_put_13 rfl ⟨Nat.le_refl _, Nat.le_refl _⟩ rfl ?_
    refine mp_fault h rfl ?_ ?_
    · unfold s_put
      first
        | rw [if_pos hv6]
        | rw [if_neg (by omega), if_pos (by omega)]
        | rw [if_neg (by omega), if_neg (by omega), if_neg (by omega)]
    · unfold r_put
      first
        | rw [if_pos hv6]
        | (rw [if_neg (by omega), if_pos (by omega)]; omega)
        | (rw [if_neg (by omega), if_neg (by omega), if_neg (by omega)]; omega)
theorem om_cell {m : Nat} {V : VV} {k i so : Int} (hM : qMod E.2.2 n sh R m) (h : MI I m V) (hk : in32 k) (hi : in32 i) (hso : in32 so) :
    Ct l E 2 mX7_cell [.ref m, .int (zI k), .int (zI i), .int (zI so)] (n, sh, I, L, R) 0 0 (qJ n sh (mpZ m I L R (r_cell V k i so) (V.setFa (refF V k so i 1)))) := by
  have fin : ∀ f v : Int, f = refF V k so i 1 → v = r_cell V k i so → ∃ v' I2 L2 R2, some (Value.long (zL v)) = some (.long (zL v')) ∧ (n, sh, up I m 0 f, L, R) = (n, sh, I2, L2, R2) ∧ mpZ m I L R (r_cell V k i so) (V.setFa (refF V k so i 1)) v' I2 L2 R2 := by
    rintro f v rfl rfl
    exact ⟨_, _, _, _, rfl, rfl, rfl, h.fault _, frO_up _ _ (by omega), rfl, rfl⟩
  refine Ct.of (lo := [(0, _), (1, _), (2, _), (3, _)]) ok_X7_cell (Nat.le_of_ble_eq_true rfl) rfl ?_
  refine wk_aload_n (i := 0) (q := 1) dX7_cell_0 rfl rfl rfl ?_
  refine wk_iconst (q := 2) dX7_cell_1 rfl ?_
  refine wk_putI (fi := 0) (q := 5) dX7_cell_2 rfl fl_X7_115 fw_7_0 rfl rfl hM.ob ?_
  refine wk_iload_n (i := 1) (q := 6) dX7_cell_5 rfl rfl rfl ?_
  refine wk_sP1 (q := 9) dX7_cell_6 rfl sl_X7_134 (ct_X7_isSheet hk) (qRo_m ok_X7_isSheet (by decide) (Nat.le_refl _) (Nat.le_refl _)) (Nat.le_of_ble_eq_true rfl) (fun v6 hv6 => ?_)
  rcases hv6 with ⟨rfl, hv6⟩ | ⟨rfl, hv6⟩
  · refine wk_if_eq (t := 19) (q := 12) dX7_cell_9 rfl rfl (by omega) (fun hq => absurd hq (by decide)) (fun _ => ?_)
    refine wk_iload_n (i := 3) (q := 13) dX7_cell_12 rfl rfl rfl ?_
    refine wk_sP1 (q := 16) dX7_cell_13 rfl sl_X7_138 (ct_X7_isSort hso) (qRo_m ok_X7_isSort (by decide) (Nat.le_refl _) (Nat.le_refl _)) (Nat.le_of_ble_eq_true rfl) (fun v13 hv13 => ?_)
    rcases hv13 with ⟨rfl, hv13⟩ | ⟨rfl, hv13⟩
    · refine wk_if_ne (t := 23) (q := 19) dX7_cell_16 rfl rfl (by omega) (fun _ => ?_) (fun hq => absurd hq (by decide))
      refine wk_aload_n (i := 0) (q := 24) dX7_cell_23 rfl rfl rfl ?_
      refine wk_getR (fi := 2) (q := 27) dX7_cell_24 rfl fl_X7_9 rfl rfl hM.ob hM.r2 ?_
      refine wk_iload_n (i := 1) (q := 28) dX7_cell_27 rfl rfl rfl ?_
      refine wk_iald (q := 29) dX7_cell_28 rfl hM.s2 (by omega) ?_
      refine wk_bipush (q := 31) dX7_cell_29 rfl (by decide +kernel) ?_
      have s1 := h.sh.rg h.1.1 hv6.1 hv6.2
      rw [up_na _ _ _ _ (by omega)]
      refine wk_icmp_eq (t := 50) (q := 34) dX7_cell_31 rfl rfl (by omega) (by omega) (fun hc31 => ?_) (fun hc31 => ?_)
      · refine wk_aload_n (i := 0) (q := 51) dX7_cell_50 rfl rfl rfl ?_
        refine wk_getR (fi := 2) (q := 54) dX7_cell_51 rfl fl_X7_9 rfl rfl hM.ob hM.r2 ?_
        refine wk_iload_n (i := 1) (q := 55) dX7_cell_54 rfl rfl rfl ?_
        refine wk_iald (q := 56) dX7_cell_55 rfl hM.s2 (by omega) ?_
        refine wk_bipush (q := 58) dX7_cell_56 rfl (by decide +kernel) ?_
        rw [up_na _ _ _ _ (by omega)]
        refine wk_icmp_ne (t := 67) (q := 61) dX7_cell_58 rfl rfl (by omega) (by omega) (fun hc58 => ?_) (fun hc58 => ?_)
        · refine wk_iload_n (i := 2) (q := 68) dX7_cell_67 rfl rfl rfl ?_
          refine wk_iconst (q := 69) dX7_cell_68 rfl ?_
          refine wk_aload_n (i := 0) (q := 70) dX7_cell_69 rfl rfl rfl ?_
          refine wk_getR (fi := 3) (q := 73) dX7_cell_70 rfl fl_X7_13 rfl rfl hM.ob hM.r3 ?_
          refine wk_iload_n (i := 1) (q := 74) dX7_cell_73 rfl rfl rfl ?_
          refine wk_iald (q := 75) dX7_cell_74 rfl hM.s3 (by omega) ?_
          refine wk_iconst (q := 76) dX7_cell_75 rfl ?_
          have s2 := (h.sh k hv6.1 hv6.2).2.1
          have s3 := h.1.1 k hv6.1 hv6.2
          rw [up_na _ _ _ _ (by omega), s2]
          refine wk_isub (q := 77) dX7_cell_76 rfl ?_
          refine wk_sP3 (q := 80) dX7_cell_77 rfl sl_X7_121 (ct_X7_within hi (by omega) (by omega)) (qRo_m ok_X7_within (by decide) (Nat.le_refl _) (Nat.le_refl _)) (Nat.le_of_ble_eq_true rfl) (fun v77 hv77 => ?_)
          rcases hv77 with ⟨rfl, hv77⟩ | ⟨rfl, hv77⟩
          · refine wk_if_ne (t := 89) (q := 83) dX7_cell_80 rfl rfl (by omega) (fun _ => ?_) (fun hq => absurd hq (by decide))
            refine wk_aload_n (i := 0) (q := 90) dX7_cell_89 rfl rfl rfl ?_
            refine wk_getR (fi := 4) (q := 93) dX7_cell_90 rfl fl_X7_16 rfl rfl hM.ob hM.r4 ?_
            refine wk_bipush (q := 95) dX7_cell_93 rfl (by decide +kernel) ?_
            refine wk_iload_n (i := 1) (q := 96) dX7_cell_95 rfl rfl rfl ?_
            refine wk_imul (q := 97) dX7_cell_96 rfl ?_
            refine wk_iload_n (i := 2) (q := 98) dX7_cell_97 rfl rfl rfl ?_
            refine wk_iadd (q := 99) dX7_cell_98 rfl ?_
            refine wk_iald (q := 100) dX7_cell_99 rfl hM.s4 (by omega) ?_
            rw [up_na _ _ _ _ (by omega), (h.sh k hv6.1 hv6.2).2.2 i hv77.1 (by omega)]
            have s4 := s3.2.2.2.2 i hv77.1 (by omega)
            refine wk_i2l (q := 101) dX7_cell_100 rfl (by omega) ?_
            refine wk_lret dX7_cell_101 rfl ⟨Nat.le_refl _, Nat.le_refl _⟩ rfl ?_
            first
              | (exfalso; omega)
              | (refine fin _ _ ?_ ?_
                 · unfold refF
                   repeat (first | rw [if_pos (by omega)] | rw [if_neg (by omega)])
                 · unfold r_cell refR
                   repeat (first | rw [if_pos (by omega)] | rw [if_neg (by omega)]))
          · refine wk_if_ne (t := 89) (q := 83) dX7_cell_80 rfl rfl (by omega) (fun hq => absurd hq (by decide)) (fun _ => ?_)
            refine wk_aload_n (i := 0) (q := 84) dX7_cell_83 rfl rfl rfl ?_
            refine wk_iconst (q := 85) dX7_cell_84 rfl ?_
            refine wk_cJ1 (q := 88) dX7_cell_85 rfl vl_X7_313 ⟨_, _, rfl⟩ hM.ob (ct_X7_lost hM) (qRo_m ok_X7_lost (by decide) (Nat.le_refl _) (Nat.le_refl _)) (Nat.le_of_ble_eq_true rfl) (fun v85 I85 L85 R85 hv85 => ?_)
            obtain ⟨rfl, rfl, rfl, rfl⟩ := hv85
            rw [up2_0]
            refine wk_lret dX7_cell_88 rfl ⟨Nat.le_refl _, Nat.le_refl _⟩ rfl ?_
            first
              | (exfalso; omega)
              | (refine fin _ _ ?_ ?_
                 · unfold refF
                   repeat (first | rw [if_pos (by omega)] | rw [if_neg (by omega)])
                 · unfold r_cell refR
                   repeat (first | rw [if_pos (by omega)] | rw [if_neg (by omega)]))
        · refine wk_aload_n (i := 0) (q := 62) dX7_cell_61 rfl rfl rfl ?_
          refine wk_iconst (q := 63) dX7_cell_62 rfl ?_
          refine wk_cJ1 (q := 66) dX7_cell_63 rfl vl_X7_313 ⟨_, _, rfl⟩ hM.ob (ct_X7_lost hM) (qRo_m ok_X7_lost (by decide) (Nat.le_refl _) (Nat.le_refl _)) (Nat.le_of_ble_eq_true rfl) (fun v63 I63 L63 R63 hv63 => ?_)
          obtain ⟨rfl, rfl, rfl, rfl⟩ := hv63
          rw [up2_0]
          refine wk_lret dX7_cell_66 rfl ⟨Nat.le_refl _, Nat.le_refl _⟩ rfl ?_
          first
            | (exfalso; omega)
            | (refine fin _ _ ?_ ?_
               · unfold refF
                 repeat (first | rw [if_pos (by omega)] | rw [if_neg (by omega)])
               · unfold r_cell refR
                 repeat (first | rw [if_pos (by omega)] | rw [if_neg (by omega)]))
      · refine wk_aload_n (i := 0) (q := 35) dX7_cell_34 rfl rfl rfl ?_
        refine wk_getR (fi := 2) (q := 38) dX7_cell_35 rfl fl_X7_9 rfl rfl hM.ob hM.r2 ?_
        refine wk_iload_n (i := 1) (q := 39) dX7_cell_38 rfl rfl rfl ?_
        refine wk_iald (q := 40) dX7_cell_39 rfl hM.s2 (by omega) ?_
        refine wk_iload_n (i := 3) (q := 41) dX7_cell_40 rfl rfl rfl ?_
        rw [up_na _ _ _ _ (by omega)]
        refine wk_icmp_eq (t := 50) (q := 44) dX7_cell_41 rfl rfl (by omega) (by omega) (fun hc41 => ?_) (fun hc41 => ?_)
        · refine wk_aload_n (i := 0) (q := 51) dX7_cell_50 rfl rfl rfl ?_
          refine wk_getR (fi := 2) (q := 54) dX7_cell_51 rfl fl_X7_9 rfl rfl hM.ob hM.r2 ?_
          refine wk_iload_n (i := 1) (q := 55) dX7_cell_54 rfl rfl rfl ?_
          refine wk_iald (q := 56) dX7_cell_55 rfl hM.s2 (by omega) ?_
          refine wk_bipush (q := 58) dX7_cell_56 rfl (by decide +kernel) ?_
          rw [up_na _ _ _ _ (by omega)]
          refine wk_icmp_ne (t := 67) (q := 61) dX7_cell_58 rfl rfl (by omega) (by omega) (fun hc58 => ?_) (fun hc58 => ?_)
          · refine wk_iload_n (i := 2) (q := 68) dX7_cell_67 rfl rfl rfl ?_
            refine wk_iconst (q := 69) dX7_cell_68 rfl ?_
            refine wk_aload_n (i := 0) (q := 70) dX7_cell_69 rfl rfl rfl ?_
            refine wk_getR (fi := 3) (q := 73) dX7_cell_70 rfl fl_X7_13 rfl rfl hM.ob hM.r3 ?_
            refine wk_iload_n (i := 1) (q := 74) dX7_cell_73 rfl rfl rfl ?_
            refine wk_iald (q := 75) dX7_cell_74 rfl hM.s3 (by omega) ?_
            refine wk_iconst (q := 76) dX7_cell_75 rfl ?_
            have s2 := (h.sh k hv6.1 hv6.2).2.1
            have s3 := h.1.1 k hv6.1 hv6.2
            rw [up_na _ _ _ _ (by omega), s2]
            refine wk_isub (q := 77) dX7_cell_76 rfl ?_
            refine wk_sP3 (q := 80) dX7_cell_77 rfl sl_X7_121 (ct_X7_within hi (by omega) (by omega)) (qRo_m ok_X7_within (by decide) (Nat.le_refl _) (Nat.le_refl _)) (Nat.le_of_ble_eq_true rfl) (fun v77 hv77 => ?_)
            rcases hv77 with ⟨rfl, hv77⟩ | ⟨rfl, hv77⟩
            · refine wk_if_ne (t := 89) (q := 83) dX7_cell_80 rfl rfl (by omega) (fun _ => ?_) (fun hq => absurd hq (by decide))
              refine wk_aload_n (i := 0) (q := 90) dX7_cell_89 rfl rfl rfl ?_
              refine wk_getR (fi := 4) (q := 93) dX7_cell_90 rfl fl_X7_16 rfl rfl hM.ob hM.r4 ?_
              refine wk_bipush (q := 95) dX7_cell_93 rfl (by decide +kernel) ?_
              refine wk_iload_n (i := 1) (q := 96) dX7_cell_95 rfl rfl rfl ?_
              refine wk_imul (q := 97) dX7_cell_96 rfl ?_
              refine wk_iload_n (i := 2) (q := 98) dX7_cell_97 rfl rfl rfl ?_
              refine wk_iadd (q := 99) dX7_cell_98 rfl ?_
              refine wk_iald (q := 100) dX7_cell_99 rfl hM.s4 (by omega) ?_
              rw [up_na _ _ _ _ (by omega), (h.sh k hv6.1 hv6.2).2.2 i hv77.1 (by omega)]
              have s4 := s3.2.2.2.2 i hv77.1 (by omega)
              refine wk_i2l (q := 101) dX7_cell_100 rfl (by omega) ?_
              refine wk_lret dX7_cell_101 rfl ⟨Nat.le_refl _, Nat.le_refl _⟩ rfl ?_
              first
                | (exfalso; omega)
                | (refine fin _ _ ?_ ?_
                   · unfold refF
                     repeat (first | rw [if_pos (by omega)] | rw [if_neg (by omega)])
                   · unfold r_cell refR
                     repeat (first | rw [if_pos (by omega)] | rw [if_neg (by omega)]))
            · refine wk_if_ne (t := 89) (q := 83) dX7_cell_80 rfl rfl (by omega) (fun hq => absurd hq (by decide)) (fun _ => ?_)
              refine wk_aload_n (i := 0) (q := 84) dX7_cell_83 rfl rfl rfl ?_
              refine wk_iconst (q := 85) dX7_cell_84 rfl ?_
              refine wk_cJ1 (q := 88) dX7_cell_85 rfl vl_X7_313 ⟨_, _, rfl⟩ hM.ob (ct_X7_lost hM) (qRo_m ok_X7_lost (by decide) (Nat.le_refl _) (Nat.le_refl _)) (Nat.le_of_ble_eq_true rfl) (fun v85 I85 L85 R85 hv85 => ?_)
              obtain ⟨rfl, rfl, rfl, rfl⟩ := hv85
              rw [up2_0]
              refine wk_lret dX7_cell_88 rfl ⟨Nat.le_refl _, Nat.le_refl _⟩ rfl ?_
              first
                | (exfalso; omega)
                | (refine fin _ _ ?_ ?_
                   · unfold refF
                     repeat (first | rw [if_pos (by omega)] | rw [if_neg (by omega)])
                   · unfold r_cell refR
                     repeat (first | rw [if_pos (by omega)] | rw [if_neg (by omega)]))
          · refine wk_aload_n (i := 0) (q := 62) dX7_cell_61 rfl rfl rfl ?_
            refine wk_iconst (q := 63) dX7_cell_62 rfl ?_
            refine wk_cJ1 (q := 66) dX7_cell_63 rfl vl_X7_313 ⟨_, _, rfl⟩ hM.ob (ct_X7_lost hM) (qRo_m ok_X7_lost (by decide) (Nat.le_refl _) (Nat.le_refl _)) (Nat.le_of_ble_eq_true rfl) (fun v63 I63 L63 R63 hv63 => ?_)
            obtain ⟨rfl, rfl, rfl, rfl⟩ := hv63
            rw [up2_0]
            refine wk_lret dX7_cell_66 rfl ⟨Nat.le_refl _, Nat.le_refl _⟩ rfl ?_
            first
              | (exfalso; omega)
              | (refine fin _ _ ?_ ?_
                 · unfold refF
                   repeat (first | rw [if_pos (by omega)] | rw [if_neg (by omega)])
                 · unfold r_cell refR
                   repeat (first | rw [if_pos (by omega)] | rw [if_neg (by omega)]))
        · refine wk_aload_n (i := 0) (q := 45) dX7_cell_44 rfl rfl rfl ?_
          refine wk_iconst (q := 46) dX7_cell_45 rfl ?_
          refine wk_cJ1 (q := 49) dX7_cell_46 rfl vl_X7_313 ⟨_, _, rfl⟩ hM.ob (ct_X7_lost hM) (qRo_m ok_X7_lost (by decide) (Nat.le_refl _) (Nat.le_refl _)) (Nat.le_of_ble_eq_true rfl) (fun v46 I46 L46 R46 hv46 => ?_)
          obtain ⟨rfl, rfl, rfl, rfl⟩ := hv46
          rw [up2_0]
          refine wk_lret dX7_cell_49 rfl ⟨Nat.le_refl _, Nat.le_refl _⟩ rfl ?_
          first
            | (exfalso; omega)
            | (refine fin _ _ ?_ ?_
               · unfold refF
                 repeat (first | rw [if_pos (by omega)] | rw [if_neg (by omega)])
               · unfold r_cell refR
                 repeat (first | rw [if_pos (by omega)] | rw [if_neg (by omega)]))
    · refine wk_if_ne (t := 23) (q := 19) dX7_cell_16 rfl rfl (by omega) (fun hq => absurd hq (by decide)) (fun _ => ?_)
      refine wk_ldc2 (z := (-9223372036854775808)) (q := 22) dX7_cell_19 rfl (v := (-9223372036854775808)) (qtb_in 1088 (by decide +kernel) (by decide +kernel)) rfl ?_
      refine wk_lret dX7_cell_22 rfl ⟨Nat.le_refl _, Nat.le_refl _⟩ rfl ?_
      first
        | (exfalso; omega)
        | (refine fin _ _ ?_ ?_
           · unfold refF
             repeat (first | rw [if_pos (by omega)] | rw [if_neg (by omega)])
           · unfold r_cell refR
             repeat (first | rw [if_pos (by omega)] | rw [if_neg (by omega)]))
  · refine wk_if_eq (t := 19) (q := 12) dX7_cell_9 rfl rfl (by omega) (fun _ => ?_) (fun hq => absurd hq (by decide))
    refine wk_ldc2 (z := (-9223372036854775808)) (q := 22) dX7_cell_19 rfl (v := (-9223372036854775808)) (qtb_in 1088 (by decide +kernel) (by decide +kernel)) rfl ?_
    refine wk_lret dX7_cell_22 rfl ⟨Nat.le_refl _, Nat.le_refl _⟩ rfl ?_
    first
      | (exfalso; omega)
      | (refine fin _ _ ?_ ?_
         · unfold refF
           repeat (first | rw [if_pos (by omega)] | rw [if_neg (by omega)])
         · unfold r_cell refR
           repeat (first | rw [if_pos (by omega)] | rw [if_neg (by omega)]))
end MOD3
