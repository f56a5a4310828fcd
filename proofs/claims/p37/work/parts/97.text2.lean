/-! TABLE, the class reads: signs, digits, a guest -/
def txI (I : qI) (d s : Nat) (c : Int → Int) (e a : Int) : Prop := (∀ p, 0 ≤ p → p < 100 → I (s + 1) p = c p ∧ in32 (c p)) ∧ I d 9 = e ∧ I d 10 = a ∧ 0 ≤ e ∧ e ≤ 100 ∧ 0 ≤ a ∧ a ≤ e
theorem txI.fr {I I' : qI} {d s : Nat} {c : Int → Int} {e a : Int} (h : txI I d s c e a) (h1 : ∀ i, I' (s + 1) i = I (s + 1) i) (h2 : I' d 9 = I d 9) (h3 : I' d 10 = I d 10) : txI I' d s c e a :=
  ⟨fun p p0 p1 => by rw [h1]; exact h.1 p p0 p1, h2.trans h.2.1, h3.trans h.2.2.1, h.2.2.2⟩
/-- a reading's two ends: with an answer and more read, or not -/
def rdQ (L : qI) (R : qR) (d s : Nat) (c : Int → Int) (e : Int) (P : Prop) (v1 v0 a1 a0 : Int) (F1 F0 : qI → Prop) : Int → qI → qI → qR → Prop := fun v I' L' R' => (v = v1 ∧ L' = L ∧ R' = R ∧ P ∧ txI I' d s c e a1 ∧ F1 I') ∨ (v = v0 ∧ L' = L ∧ R' = R ∧ ¬ P ∧ txI I' d s c e a0 ∧ F0 I')
def frD (I : qI) (d : Nat) : qI → Prop := fun I' => ∀ b i, ¬ (b = d ∧ i = 10) → I' b i = I b i
section TEXT2
variable {l : Launch} {E : qEv} {n : Nat} {sh : qSh} {I L : qI} {R : qR}
theorem ct_X5_isSign {d s : Nat} {c : Int → Int} {e a g : Int} (hO : qTold E.2.2 n sh R d) (hS : qSheet E.2.2 n sh R s) (hds : d + 14 ≤ s) (h : txI I d s c e a) (hg : in32 g) :
    Ct l E 0 mX5_isSign [.ref d, .ref s, .int (zI g)] (n, sh, I, L, R) 0 0 (qZ n sh (rdQ L R d s c e (a < e ∧ c a = g) 1 0 (a + 1) a (frD I d) (frD I d))) := by
  obtain ⟨h1, rfl, rfl, h4, h5, h6, h7⟩ := id h
  refine Ct.of (lo := [(0, _), (1, _), (2, _)]) ok_X5_isSign (Nat.le_of_ble_eq_true rfl) rfl ?_
  refine wk_aload_n (i := 0) (q := 1) dX5_isSign_0 rfl rfl rfl ?_
  refine wk_getI (fi := 10) (q := 4) dX5_isSign_1 rfl fl_X5_39 rfl rfl hO.ob ?_
  refine wk_aload_n (i := 0) (q := 5) dX5_isSign_4 rfl rfl rfl ?_
  refine wk_getI (fi := 9) (q := 8) dX5_isSign_5 rfl fl_X5_36 rfl rfl hO.ob ?_
  refine wk_icmp_ge (t := 24) (q := 11) dX5_isSign_8 rfl rfl (by omega) (by omega) (fun hc8 => ?_) (fun hc8 => ?_)
  · refine wk_iconst (q := 25) dX5_isSign_24 rfl ?_
    refine wk_zret dX5_isSign_25 rfl (by omega) ⟨Nat.le_refl _, Nat.le_refl _⟩ rfl ?_
    exact ⟨_, _, _, _, rfl, rfl, Or.inr ⟨rfl, rfl, rfl, by omega, h, fun _ _ _ => rfl⟩⟩
  · refine wk_aload_n (i := 1) (q := 12) dX5_isSign_11 rfl rfl rfl ?_
    refine wk_getR (fi := 0) (q := 15) dX5_isSign_12 rfl fl_X5_74 rfl rfl hS.ob hS.r0 ?_
    refine wk_aload_n (i := 0) (q := 16) dX5_isSign_15 rfl rfl rfl ?_
    refine wk_getI (fi := 10) (q := 19) dX5_isSign_16 rfl fl_X5_39 rfl rfl hO.ob ?_
    have q := h1 (I d 10) (by omega) (by omega)
    refine wk_iald (q := 20) dX5_isSign_19 rfl hS.s0 (by omega) ?_
    refine wk_iload_n (i := 2) (q := 21) dX5_isSign_20 rfl rfl rfl ?_
    refine wk_icmp_eq (t := 26) (q := 24) dX5_isSign_21 rfl rfl (by omega) (by omega) (fun hc21 => ?_) (fun hc21 => ?_)
    · refine wk_aload_n (i := 0) (q := 27) dX5_isSign_26 rfl rfl rfl ?_
      refine wk_dup (q := 28) dX5_isSign_27 rfl rfl ?_
      refine wk_getI (fi := 10) (q := 31) dX5_isSign_28 rfl fl_X5_39 rfl rfl hO.ob ?_
      refine wk_iconst (q := 32) dX5_isSign_31 rfl ?_
      refine wk_iadd (q := 33) dX5_isSign_32 rfl ?_
      refine wk_putI (fi := 10) (q := 36) dX5_isSign_33 rfl fl_X5_39 fw_5_10 rfl rfl hO.ob ?_
      refine wk_iconst (q := 37) dX5_isSign_36 rfl ?_
      refine wk_zret dX5_isSign_37 rfl (by omega) ⟨Nat.le_refl _, Nat.le_refl _⟩ rfl ?_
      refine ⟨_, _, _, _, rfl, rfl, Or.inl ⟨rfl, rfl, rfl, by omega, ⟨fun p p0 p1 => ?_, up_ni _ _ (by omega), up_eq _ _ _ _, h4, h5, by omega, by omega⟩, fun b i z => up_off z⟩⟩
      rw [up_na _ _ _ _ (by omega)]
      exact h1 p p0 p1
    · refine wk_iconst (q := 25) dX5_isSign_24 rfl ?_
      refine wk_zret dX5_isSign_25 rfl (by omega) ⟨Nat.le_refl _, Nat.le_refl _⟩ rfl ?_
      exact ⟨_, _, _, _, rfl, rfl, Or.inr ⟨rfl, rfl, rfl, by omega, h, fun _ _ _ => rfl⟩⟩
theorem ct_X5_digit {d s : Nat} {c : Int → Int} {e a lo hi : Int} (hO : qTold E.2.2 n sh R d) (hS : qSheet E.2.2 n sh R s) (hds : d + 14 ≤ s) (h : txI I d s c e a) (hlo : 0 ≤ lo ∧ lo ≤ 9) (hhi : 0 ≤ hi ∧ hi ≤ 9) :
    Ct l E 0 mX5_digit [.ref d, .ref s, .int (zI lo), .int (zI hi)] (n, sh, I, L, R) 0 0 (qZ n sh (rdQ L R d s c e (dgOk c e a lo hi) (c a - 48) (-1) (a + 1) a (frD I d) (frD I d))) := by
  obtain ⟨h1, rfl, rfl, h4, h5, h6, h7⟩ := id h
  refine Ct.of (lo := [(0, _), (1, _), (2, _), (3, _)]) ok_X5_digit (Nat.le_of_ble_eq_true rfl) rfl ?_
  refine wk_aload_n (i := 0) (q := 1) dX5_digit_0 rfl rfl rfl ?_
  refine wk_getI (fi := 10) (q := 4) dX5_digit_1 rfl fl_X5_39 rfl rfl hO.ob ?_
  refine wk_aload_n (i := 0) (q := 5) dX5_digit_4 rfl rfl rfl ?_
  refine wk_getI (fi := 9) (q := 8) dX5_digit_5 rfl fl_X5_36 rfl rfl hO.ob ?_
  refine wk_icmp_ge (t := 43) (q := 11) dX5_digit_8 rfl rfl (by omega) (by omega) (fun hc8 => ?_) (fun hc8 => ?_)
  · refine wk_iconst (q := 44) dX5_digit_43 rfl ?_
    refine wk_iret dX5_digit_44 rfl ⟨Nat.le_refl _, Nat.le_refl _⟩ rfl ?_
    exact ⟨_, _, _, _, rfl, rfl, Or.inr ⟨rfl, rfl, rfl, by omega, h, fun _ _ _ => rfl⟩⟩
  · refine wk_aload_n (i := 1) (q := 12) dX5_digit_11 rfl rfl rfl ?_
    refine wk_getR (fi := 0) (q := 15) dX5_digit_12 rfl fl_X5_74 rfl rfl hS.ob hS.r0 ?_
    refine wk_aload_n (i := 0) (q := 16) dX5_digit_15 rfl rfl rfl ?_
    refine wk_getI (fi := 10) (q := 19) dX5_digit_16 rfl fl_X5_39 rfl rfl hO.ob ?_
    have q := h1 (I d 10) (by omega) (by omega)
    refine wk_iald (q := 20) dX5_digit_19 rfl hS.s0 (by omega) ?_
    refine wk_bipush (q := 22) dX5_digit_20 rfl (by decide +kernel) ?_
    refine wk_iload_n (i := 2) (q := 23) dX5_digit_22 rfl rfl rfl ?_
    refine wk_iadd (q := 24) dX5_digit_23 rfl ?_
    refine wk_icmp_lt (t := 43) (q := 27) dX5_digit_24 rfl rfl (by omega) (by omega) (fun hc24 => ?_) (fun hc24 => ?_)
    · refine wk_iconst (q := 44) dX5_digit_43 rfl ?_
      refine wk_iret dX5_digit_44 rfl ⟨Nat.le_refl _, Nat.le_refl _⟩ rfl ?_
      exact ⟨_, _, _, _, rfl, rfl, Or.inr ⟨rfl, rfl, rfl, by omega, h, fun _ _ _ => rfl⟩⟩
    · refine wk_aload_n (i := 1) (q := 28) dX5_digit_27 rfl rfl rfl ?_
      refine wk_getR (fi := 0) (q := 31) dX5_digit_28 rfl fl_X5_74 rfl rfl hS.ob hS.r0 ?_
      refine wk_aload_n (i := 0) (q := 32) dX5_digit_31 rfl rfl rfl ?_
      refine wk_getI (fi := 10) (q := 35) dX5_digit_32 rfl fl_X5_39 rfl rfl hO.ob ?_
      refine wk_iald (q := 36) dX5_digit_35 rfl hS.s0 (by omega) ?_
      refine wk_bipush (q := 38) dX5_digit_36 rfl (by decide +kernel) ?_
      refine wk_iload_n (i := 3) (q := 39) dX5_digit_38 rfl rfl rfl ?_
      refine wk_iadd (q := 40) dX5_digit_39 rfl ?_
      refine wk_icmp_le (t := 45) (q := 43) dX5_digit_40 rfl rfl (by omega) (by omega) (fun hc40 => ?_) (fun hc40 => ?_)
      · refine wk_aload_n (i := 1) (q := 46) dX5_digit_45 rfl rfl rfl ?_
        refine wk_getR (fi := 0) (q := 49) dX5_digit_46 rfl fl_X5_74 rfl rfl hS.ob hS.r0 ?_
        refine wk_aload_n (i := 0) (q := 50) dX5_digit_49 rfl rfl rfl ?_
        refine wk_dup (q := 51) dX5_digit_50 rfl rfl ?_
        refine wk_getI (fi := 10) (q := 54) dX5_digit_51 rfl fl_X5_39 rfl rfl hO.ob ?_
        refine wk_dup_x1 (q := 55) dX5_digit_54 rfl rfl rfl ?_
        refine wk_iconst (q := 56) dX5_digit_55 rfl ?_
        refine wk_iadd (q := 57) dX5_digit_56 rfl ?_
        refine wk_putI (fi := 10) (q := 60) dX5_digit_57 rfl fl_X5_39 fw_5_10 rfl rfl hO.ob ?_
        refine wk_iald (q := 61) dX5_digit_60 rfl hS.s0 (by omega) ?_
        rw [up_na _ _ _ _ (by omega), q.1]
        refine wk_bipush (q := 63) dX5_digit_61 rfl (by decide +kernel) ?_
        refine wk_isub (q := 64) dX5_digit_63 rfl ?_
        refine wk_iret dX5_digit_64 rfl ⟨Nat.le_refl _, Nat.le_refl _⟩ rfl ?_
        refine ⟨_, _, _, _, rfl, rfl, Or.inl ⟨rfl, rfl, rfl, by omega, ⟨fun p p0 p1 => ?_, up_ni _ _ (by omega), up_eq _ _ _ _, h4, h5, by omega, by omega⟩, fun b i z => up_off z⟩⟩
        rw [up_na _ _ _ _ (by omega)]
        exact h1 p p0 p1
      · refine wk_iconst (q := 44) dX5_digit_43 rfl ?_
        refine wk_iret dX5_digit_44 rfl ⟨Nat.le_refl _, Nat.le_refl _⟩ rfl ?_
        exact ⟨_, _, _, _, rfl, rfl, Or.inr ⟨rfl, rfl, rfl, by omega, h, fun _ _ _ => rfl⟩⟩
theorem ct_X5_kindOfLetter {d s : Nat} {c : Int → Int} {e a : Int} (hO : qTold E.2.2 n sh R d) (hS : qSheet E.2.2 n sh R s) (hds : d + 14 ≤ s) (h : txI I d s c e a) :
    Ct l E 1 mX5_kindOfLetter [.ref d, .ref s] (n, sh, I, L, R) 0 0 (qZ n sh (rdQ L R d s c e (ltOk c e a) (kdL c a) (-1) (a + 1) a (frD I d) (frD I d))) := by
  refine Ct.of (lo := [(0, _), (1, _)]) ok_X5_kindOfLetter (Nat.le_of_ble_eq_true rfl) rfl ?_
  refine wk_aload_n (i := 0) (q := 1) dX5_kindOfLetter_0 rfl rfl rfl ?_
  refine wk_aload_n (i := 1) (q := 2) dX5_kindOfLetter_1 rfl rfl rfl ?_
  refine wk_bipush (q := 4) dX5_kindOfLetter_2 rfl (by decide +kernel) ?_
  refine wk_cZ2 (q := 7) dX5_kindOfLetter_4 rfl vl_X5_45 ⟨_, _, rfl⟩ hO.ob (ct_X5_isSign hO hS hds h (by omega)) (qRo_m ok_X5_isSign (by decide) (Nat.le_refl _) (Nat.le_refl _)) (Nat.le_of_ble_eq_true rfl) (fun v4 I4 L4 R4 hv4 => ?_)
  rcases hv4 with ⟨rfl, hv4⟩ | ⟨rfl, hv4⟩
  · obtain ⟨rfl, rfl, p4, x4, f4⟩ := hv4
    refine wk_if_eq (t := 12) (q := 10) dX5_kindOfLetter_7 rfl rfl (by omega) (fun hq => absurd hq (by decide)) (fun _ => ?_)
    refine wk_iconst (q := 11) dX5_kindOfLetter_10 rfl ?_
    refine wk_iret dX5_kindOfLetter_11 rfl ⟨Nat.le_refl _, Nat.le_refl _⟩ rfl ?_
    refine ⟨_, _, _, _, rfl, rfl, Or.inl ⟨?_, rfl, rfl, by omega, x4, f4⟩⟩
    unfold kdL
    rw [if_pos p4.2]
  · obtain ⟨rfl, rfl, p4, x4, f4⟩ := hv4
    refine wk_if_eq (t := 12) (q := 10) dX5_kindOfLetter_7 rfl rfl (by omega) (fun _ => ?_) (fun hq => absurd hq (by decide))
    refine wk_aload_n (i := 0) (q := 13) dX5_kindOfLetter_12 rfl rfl rfl ?_
    refine wk_aload_n (i := 1) (q := 14) dX5_kindOfLetter_13 rfl rfl rfl ?_
    refine wk_bipush (q := 16) dX5_kindOfLetter_14 rfl (by decide +kernel) ?_
    refine wk_cZ2 (q := 19) dX5_kindOfLetter_16 rfl vl_X5_45 ⟨_, _, rfl⟩ hO.ob (ct_X5_isSign hO hS hds x4 (by omega)) (qRo_m ok_X5_isSign (by decide) (Nat.le_refl _) (Nat.le_refl _)) (Nat.le_of_ble_eq_true rfl) (fun v16 I16 L16 R16 hv16 => ?_)
    rcases hv16 with ⟨rfl, hv16⟩ | ⟨rfl, hv16⟩
    · obtain ⟨rfl, rfl, p16, x16, f16⟩ := hv16
      refine wk_if_eq (t := 24) (q := 22) dX5_kindOfLetter_19 rfl rfl (by omega) (fun hq => absurd hq (by decide)) (fun _ => ?_)
      refine wk_iconst (q := 23) dX5_kindOfLetter_22 rfl ?_
      refine wk_iret dX5_kindOfLetter_23 rfl ⟨Nat.le_refl _, Nat.le_refl _⟩ rfl ?_
      refine ⟨_, _, _, _, rfl, rfl, Or.inl ⟨?_, rfl, rfl, by omega, x16, fun b i q => (f16 b i q).trans (f4 b i q)⟩⟩
      unfold kdL
      rw [if_neg (by omega), if_pos p16.2]
    · obtain ⟨rfl, rfl, p16, x16, f16⟩ := hv16
      refine wk_if_eq (t := 24) (q := 22) dX5_kindOfLetter_19 rfl rfl (by omega) (fun _ => ?_) (fun hq => absurd hq (by decide))
      refine wk_aload_n (i := 0) (q := 25) dX5_kindOfLetter_24 rfl rfl rfl ?_
      refine wk_aload_n (i := 1) (q := 26) dX5_kindOfLetter_25 rfl rfl rfl ?_
      refine wk_bipush (q := 28) dX5_kindOfLetter_26 rfl (by decide +kernel) ?_
      refine wk_cZ2 (q := 31) dX5_kindOfLetter_28 rfl vl_X5_45 ⟨_, _, rfl⟩ hO.ob (ct_X5_isSign hO hS hds x16 (by omega)) (qRo_m ok_X5_isSign (by decide) (Nat.le_refl _) (Nat.le_refl _)) (Nat.le_of_ble_eq_true rfl) (fun v28 I28 L28 R28 hv28 => ?_)
      rcases hv28 with ⟨rfl, hv28⟩ | ⟨rfl, hv28⟩
      · obtain ⟨rfl, rfl, p28, x28, f28⟩ := hv28
        refine wk_if_eq (t := 38) (q := 34) dX5_kindOfLetter_31 rfl rfl (by omega) (fun hq => absurd hq (by decide)) (fun _ => ?_)
        refine wk_iconst (q := 35) dX5_kindOfLetter_34 rfl ?_
        refine wk_goto (t := 39) dX5_kindOfLetter_35 rfl ?_
        refine wk_iret dX5_kindOfLetter_39 rfl ⟨Nat.le_refl _, Nat.le_refl _⟩ rfl ?_
        first
        | (refine ⟨_, _, _, _, rfl, rfl, Or.inl ⟨?_, rfl, rfl, by omega, x28, fun b i q => (f28 b i q).trans ((f16 b i q).trans (f4 b i q))⟩⟩
           unfold kdL
           rw [if_neg (by omega), if_neg (by omega)])
        | exact ⟨_, _, _, _, rfl, rfl, Or.inr ⟨rfl, rfl, rfl, by omega, x28, fun b i q => (f28 b i q).trans ((f16 b i q).trans (f4 b i q))⟩⟩
      · obtain ⟨rfl, rfl, p28, x28, f28⟩ := hv28
        refine wk_if_eq (t := 38) (q := 34) dX5_kindOfLetter_31 rfl rfl (by omega) (fun _ => ?_) (fun hq => absurd hq (by decide))
        refine wk_iconst (q := 39) dX5_kindOfLetter_38 rfl ?_
        refine wk_iret dX5_kindOfLetter_39 rfl ⟨Nat.le_refl _, Nat.le_refl _⟩ rfl ?_
        first
        | (refine ⟨_, _, _, _, rfl, rfl, Or.inl ⟨?_, rfl, rfl, by omega, x28, fun b i q => (f28 b i q).trans ((f16 b i q).trans (f4 b i q))⟩⟩
           unfold kdL
           rw [if_neg (by omega), if_neg (by omega)])
        | exact ⟨_, _, _, _, rfl, rfl, Or.inr ⟨rfl, rfl, rfl, by omega, x28, fun b i q => (f28 b i q).trans ((f16 b i q).trans (f4 b i q))⟩⟩
def frW (I : qI) (d : Nat) (g : Int) : qI → Prop := fun I' => ∀ b i, ¬ (b = d ∧ i = 10) → b ≠ d + 7 + g.toNat → I' b i = I b i
theorem ct_X5_isWorthRead {d s M : Nat} {c : Int → Int} {e a g : Int} (hO : qTold E.2.2 n sh R d) (hS : qSheet E.2.2 n sh R s) (hds : d + 14 ≤ s) (h : txI I d s c e a) (hM : I d 6 = (M : Int)) (hM2 : 2 ≤ M ∧ M ≤ 6) (hg : 0 ≤ g ∧ g < 7) :
    Ct l E 1 mX5_isWorthRead [.ref d, .ref s, .int (zI g)] (n, sh, I, L, R) 0 0 (qZ n sh (rdQ L R d s c e (fstN (sgB c e M a) M = M) 1 0 (a + M) (a + fstN (sgB c e M a) M) (fun I' => frW I d g I' ∧ ∀ i : Nat, i < M → I' (d + 7 + g.toNat) i = wv c (a + i)) (frW I d g))) := by
  have loop : ∀ j : Nat, j ≤ M → fstN (sgB c e M a) j = j → ∀ I1 : qI, txI I1 d s c e (a + j) → frW I d g I1 → (∀ i : Nat, i < j → I1 (d + 7 + g.toNat) i = wv c (a + i)) → Wk l E (qmo E 1 n 0 0 (qZ n sh (rdQ L R d s c e (fstN (sgB c e M a) M = M) 1 0 (a + M) (a + fstN (sgB c e M a) M) (fun I' => frW I d g I' ∧ ∀ i : Nat, i < M → I' (d + 7 + g.toNat) i = wv c (a + i)) (frW I d g)))) mX5_isWorthRead 0 0 5
      [(0, .ref d), (1, .ref s), (2, .int (zI g)), (3, .int (zI (if allX c a j then 0 else 1))), (4, .int (zI (j : Int)))] [] (n, sh, I1, L, R) := by
    refine up_ind M ?_ ?_
    · intro hf I1 f1 f2 f3
      have e6 : I1 d 6 = (M : Int) := by rw [f2 _ _ (by omega) (by omega)]; exact hM
      refine wk_iload (i := 4) (q := 7) dX5_isWorthRead_5 rfl rfl ?_
      refine wk_aload_n (i := 0) (q := 8) dX5_isWorthRead_7 rfl rfl rfl ?_
      refine wk_getI (fi := 6) (q := 11) dX5_isWorthRead_8 rfl fl_X5_60 rfl rfl hO.ob ?_
      refine wk_icmp_ge (t := 91) (q := 14) dX5_isWorthRead_11 rfl rfl (by omega) (by omega) (fun hc11 => ?_) (fun hc11 => ?_)
      · refine wk_iconst (q := 92) dX5_isWorthRead_91 rfl ?_
        refine wk_zret dX5_isWorthRead_92 rfl (by omega) ⟨Nat.le_refl _, Nat.le_refl _⟩ rfl ?_
        exact ⟨_, _, _, _, rfl, rfl, Or.inl ⟨rfl, rfl, rfl, hf, f1, f2, f3⟩⟩
      · omega
    · intro j hj ih hf I1 f1 f2 f3
      have e6 : I1 d 6 = (M : Int) := by rw [f2 _ _ (by omega) (by omega)]; exact hM
      have bad : sgB c e M a j = false → ∀ I2 : qI, txI I2 d s c e (a + j) → frW I d g I2 → Wk l E (qmo E 1 n 0 0 (qZ n sh (rdQ L R d s c e (fstN (sgB c e M a) M = M) 1 0 (a + M) (a + fstN (sgB c e M a) M) (fun I' => frW I d g I' ∧ ∀ i : Nat, i < M → I' (d + 7 + g.toNat) i = wv c (a + i)) (frW I d g)))) mX5_isWorthRead 0 0 73
          [(0, .ref d), (1, .ref s), (2, .int (zI g)), (3, .int (zI (if allX c a j then 0 else 1))), (4, .int (zI (j : Int)))] [] (n, sh, I2, L, R) := by
        intro hb I2 k1 k2
        have st := fstN_stop' hf hb hj
        refine wk_iconst (q := 74) dX5_isWorthRead_73 rfl ?_
        refine wk_zret dX5_isWorthRead_74 rfl (by omega) ⟨Nat.le_refl _, Nat.le_refl _⟩ rfl ?_
        exact ⟨_, _, _, _, rfl, rfl, Or.inr ⟨rfl, rfl, rfl, by omega, by rw [st]; exact k1, k2⟩⟩
      have ub : (if allX c a j then (0 : Int) else 1) = 0 ∨ (if allX c a j then (0 : Int) else 1) = 1 := by
        split
        · exact Or.inl rfl
        · exact Or.inr rfl
      have nx : ∀ (w : Int) (I2 : qI), sgB c e M a j = true → w = (if allX c a (j + 1) then 0 else 1) → txI I2 d s c e (a + j + 1) → frW I d g I2 → (∀ i : Nat, i < j + 1 → I2 (d + 7 + g.toNat) i = wv c (a + i)) → Wk l E (qmo E 1 n 0 0 (qZ n sh (rdQ L R d s c e (fstN (sgB c e M a) M = M) 1 0 (a + M) (a + fstN (sgB c e M a) M) (fun I' => frW I d g I' ∧ ∀ i : Nat, i < M → I' (d + 7 + g.toNat) i = wv c (a + i)) (frW I d g)))) mX5_isWorthRead 0 0 85
          [(0, .ref d), (1, .ref s), (2, .int (zI g)), (3, .int (zI w)), (4, .int (zI (j : Int)))] [] (n, sh, I2, L, R) := by
        intro w I2 hs hw k1 k2 k3
        subst hw
        have go := ih (fstN_go hf hs) I2 (by rw [show a + ((j + 1 : Nat) : Int) = a + j + 1 by omega]; exact k1) k2 k3
        refine wk_iinc (lo' := [(0, _), (1, _), (2, _), (3, _), (4, _)]) (q := 88) dX5_isWorthRead_85 rfl rfl (by decide) rfl ?_
        refine wk_goto (t := 5) dX5_isWorthRead_88 rfl ?_
        exact go
      have ax : allX c a (j + 1) = (allX c a j && (c (a + (j : Int)) == 120)) := rfl
      refine wk_iload (i := 4) (q := 7) dX5_isWorthRead_5 rfl rfl ?_
      refine wk_aload_n (i := 0) (q := 8) dX5_isWorthRead_7 rfl rfl rfl ?_
      refine wk_getI (fi := 6) (q := 11) dX5_isWorthRead_8 rfl fl_X5_60 rfl rfl hO.ob ?_
      refine wk_icmp_ge (t := 91) (q := 14) dX5_isWorthRead_11 rfl rfl (by omega) (by omega) (fun hc11 => ?_) (fun hc11 => ?_)
      · omega
      · refine wk_aload_n (i := 0) (q := 15) dX5_isWorthRead_14 rfl rfl rfl ?_
        refine wk_getR (fi := 5) (q := 18) dX5_isWorthRead_15 rfl fl_X5_29 rfl rfl hO.ob hO.r5 ?_
        refine wk_iload_n (i := 2) (q := 19) dX5_isWorthRead_18 rfl rfl rfl ?_
        refine wk_aald2 (q := 20) dX5_isWorthRead_19 rfl hO.s5 (by omega) (hO.w5 (by omega)) ?_
        refine wk_iload (i := 4) (q := 22) dX5_isWorthRead_20 rfl rfl ?_
        refine wk_aload_n (i := 0) (q := 23) dX5_isWorthRead_22 rfl rfl rfl ?_
        refine wk_aload_n (i := 1) (q := 24) dX5_isWorthRead_23 rfl rfl rfl ?_
        refine wk_iconst (q := 25) dX5_isWorthRead_24 rfl ?_
        refine wk_bipush (q := 27) dX5_isWorthRead_25 rfl (by decide +kernel) ?_
        refine wk_cZ3 (q := 30) dX5_isWorthRead_27 rfl vl_X5_56 ⟨_, _, rfl⟩ hO.ob (ct_X5_digit hO hS hds f1 (by omega) (by omega)) (qRo_m ok_X5_digit (by decide) (Nat.le_refl _) (Nat.le_refl _)) (Nat.le_of_ble_eq_true rfl) (fun v27 I27 L27 R27 hv27 => ?_)
        rcases hv27 with ⟨rfl, hv27⟩ | ⟨rfl, hv27⟩
        · obtain ⟨rfl, rfl, p27, x27, f27⟩ := hv27
          have k1 : ∀ v : Int, ∀ b i, ¬ (b = d ∧ i = 10) → b ≠ d + 7 + g.toNat → up I27 (d + 7 + g.toNat) (j : Int) v b i = I b i := fun v b i q1 q2 => by rw [up_na _ _ _ _ q2, f27 b i q1]; exact f2 b i q1 q2
          have k2 : ∀ (v : Int) (a' : Int), txI I27 d s c e a' → txI (up I27 (d + 7 + g.toNat) (j : Int) v) d s c e a' := fun v a' z => z.fr (fun i => up_na _ _ _ _ (by omega)) (up_na _ _ _ _ (by omega)) (up_na _ _ _ _ (by omega))
          have e6' : ∀ v : Int, up I27 (d + 7 + g.toNat) (j : Int) v d 6 = (M : Int) := fun v => by rw [up_na _ _ _ _ (by omega), f27 _ _ (by omega)]; exact e6
          have k3 : ∀ v : Int, v = wv c (a + j) → ∀ i : Nat, i < j + 1 → up I27 (d + 7 + g.toNat) (j : Int) v (d + 7 + g.toNat) i = wv c (a + i) := fun v hv i hi => by
            by_cases q : i = j
            · subst q
              rw [up_eq]
              exact hv
            · rw [up_ni _ _ (by omega), f27 _ _ (by omega)]
              exact f3 i (by omega)
          refine wk_iast (q := 31) dX5_isWorthRead_30 rfl (hO.v5 (by omega)) (by omega) ?_
          refine wk_aload_n (i := 0) (q := 32) dX5_isWorthRead_31 rfl rfl rfl ?_
          refine wk_getR (fi := 5) (q := 35) dX5_isWorthRead_32 rfl fl_X5_29 rfl rfl hO.ob hO.r5 ?_
          refine wk_iload_n (i := 2) (q := 36) dX5_isWorthRead_35 rfl rfl rfl ?_
          refine wk_aald2 (q := 37) dX5_isWorthRead_36 rfl hO.s5 (by omega) (hO.w5 (by omega)) ?_
          refine wk_iload (i := 4) (q := 39) dX5_isWorthRead_37 rfl rfl ?_
          refine wk_iald (q := 40) dX5_isWorthRead_39 rfl (hO.v5 (by omega)) (by omega) ?_
          rw [up_eq]
          refine wk_if_lt (t := 48) (q := 43) dX5_isWorthRead_40 rfl rfl (by omega) (fun hc40 => ?_) (fun hc40 => ?_)
          · refine wk_iload (i := 4) (q := 50) dX5_isWorthRead_48 rfl rfl ?_
            refine wk_aload_n (i := 0) (q := 51) dX5_isWorthRead_50 rfl rfl rfl ?_
            have e6'' := e6' (-1)
            refine wk_getI (fi := 6) (q := 54) dX5_isWorthRead_51 rfl fl_X5_60 rfl rfl hO.ob ?_
            refine wk_iconst (q := 55) dX5_isWorthRead_54 rfl ?_
            refine wk_isub (q := 56) dX5_isWorthRead_55 rfl ?_
            refine wk_icmp_ne (t := 63) (q := 59) dX5_isWorthRead_56 rfl rfl (by omega) (by omega) (fun hc56 => ?_) (fun hc56 => ?_)
            · refine wk_aload_n (i := 0) (q := 64) dX5_isWorthRead_63 rfl rfl rfl ?_
              refine wk_aload_n (i := 1) (q := 65) dX5_isWorthRead_64 rfl rfl rfl ?_
              refine wk_bipush (q := 67) dX5_isWorthRead_65 rfl (by decide +kernel) ?_
              refine wk_cZ2 (q := 70) dX5_isWorthRead_67 rfl vl_X5_45 ⟨_, _, rfl⟩ hO.ob (ct_X5_isSign hO hS hds (k2 _ _ x27) (by omega)) (qRo_m ok_X5_isSign (by decide) (Nat.le_refl _) (Nat.le_refl _)) (Nat.le_of_ble_eq_true rfl) (fun v67 I67 L67 R67 hv67 => ?_)
              rcases hv67 with ⟨rfl, hv67⟩ | ⟨rfl, hv67⟩
              · obtain ⟨rfl, rfl, p67, x67, f67⟩ := hv67
                refine wk_if_ne (t := 75) (q := 73) dX5_isWorthRead_70 rfl rfl (by omega) (fun _ => ?_) (fun hq => absurd hq (by decide))
                refine wk_aload_n (i := 0) (q := 76) dX5_isWorthRead_75 rfl rfl rfl ?_
                refine wk_getR (fi := 5) (q := 79) dX5_isWorthRead_76 rfl fl_X5_29 rfl rfl hO.ob hO.r5 ?_
                refine wk_iload_n (i := 2) (q := 80) dX5_isWorthRead_79 rfl rfl rfl ?_
                refine wk_aald2 (q := 81) dX5_isWorthRead_80 rfl hO.s5 (by omega) (hO.w5 (by omega)) ?_
                refine wk_iload (i := 4) (q := 83) dX5_isWorthRead_81 rfl rfl ?_
                refine wk_iconst (q := 84) dX5_isWorthRead_83 rfl ?_
                refine wk_iast (q := 85) dX5_isWorthRead_84 rfl (hO.v5 (by omega)) (by omega) ?_
                skip
                first
                  | (exfalso; omega)
                  | exact nx _ _ (decide_eq_true (Or.inl p27)) (by rw [ax, show (c (a + (j : Int)) == 120) = false from by simp only [beq_eq_false_iff_ne]; omega, Bool.and_false]; rfl) (k2 _ _ x27) (k1 _) (k3 _ (by unfold wv; rw [if_neg (by omega)]))
                  | (refine nx _ _ (decide_eq_true (Or.inr ⟨p67.1, p67.2, fun q => ?_⟩)) ?_ (x67.fr (fun i => up_na _ _ _ _ (by omega)) (up_na _ _ _ _ (by omega)) (up_na _ _ _ _ (by omega))) (fun b i q1 q2 => by rw [up_na _ _ _ _ q2, f67 b i q1]; exact k1 _ b i q1 q2) (fun i hi => ?_)
                     · by_cases z : (if allX c a j then (0 : Int) else 1) = 0
                       · omega
                       · rw [if_pos q.2] at z
                         exact z rfl
                     · rw [ax, show (c (a + (j : Int)) == 120) = true from by simp only [beq_iff_eq]; exact p67.2, Bool.and_true]
                     · by_cases q : i = j
                       · subst q
                         rw [up_eq]
                         unfold wv
                         rw [if_pos p67.2]
                       · rw [up_ni _ _ (by omega), f67 _ _ (by omega), up_ni _ _ (by omega), f27 _ _ (by omega)]
                         exact f3 i (by omega))
              · obtain ⟨rfl, rfl, p67, x67, f67⟩ := hv67
                refine wk_if_ne (t := 75) (q := 73) dX5_isWorthRead_70 rfl rfl (by omega) (fun hq => absurd hq (by decide)) (fun _ => ?_)
                skip
                first
                  | (exfalso; omega)
                  | exact bad (decide_eq_false (fun q => by
                      rcases q with q | q
                      · exact p27 q
                      · exact p67 ⟨q.1, q.2.1⟩)) _ x67 (fun b i q1 q2 => by rw [f67 b i q1]; exact k1 _ b i q1 q2)
                  | exact bad (decide_eq_false (fun q => by
                      rcases q with q | q
                      · exact p27 q
                      · refine q.2.2 ⟨by omega, ?_⟩
                        cases z : allX c a j with
                        | true => rfl
                        | false =>
                          have y : (if allX c a j then (0 : Int) else 1) = 0 := by omega
                          rw [z] at y
                          cases y)) _ (k2 _ _ x27) (k1 _)
            · refine wk_iload_n (i := 3) (q := 60) dX5_isWorthRead_59 rfl rfl rfl ?_
              refine wk_if_eq (t := 73) (q := 63) dX5_isWorthRead_60 rfl rfl (by omega) (fun hc60 => ?_) (fun hc60 => ?_)
              · skip
                first
                  | (exfalso; omega)
                  | exact bad (decide_eq_false (fun q => by
                      rcases q with q | q
                      · exact p27 q
                      · exact p67 ⟨q.1, q.2.1⟩)) _ x67 (fun b i q1 q2 => by rw [f67 b i q1]; exact k1 _ b i q1 q2)
                  | exact bad (decide_eq_false (fun q => by
                      rcases q with q | q
                      · exact p27 q
                      · refine q.2.2 ⟨by omega, ?_⟩
                        cases z : allX c a j with
                        | true => rfl
                        | false =>
                          have y : (if allX c a j then (0 : Int) else 1) = 0 := by omega
                          rw [z] at y
                          cases y)) _ (k2 _ _ x27) (k1 _)
              · refine wk_aload_n (i := 0) (q := 64) dX5_isWorthRead_63 rfl rfl rfl ?_
                refine wk_aload_n (i := 1) (q := 65) dX5_isWorthRead_64 rfl rfl rfl ?_
                refine wk_bipush (q := 67) dX5_isWorthRead_65 rfl (by decide +kernel) ?_
                refine wk_cZ2 (q := 70) dX5_isWorthRead_67 rfl vl_X5_45 ⟨_, _, rfl⟩ hO.ob (ct_X5_isSign hO hS hds (k2 _ _ x27) (by omega)) (qRo_m ok_X5_isSign (by decide) (Nat.le_refl _) (Nat.le_refl _)) (Nat.le_of_ble_eq_true rfl) (fun v67 I67 L67 R67 hv67 => ?_)
                rcases hv67 with ⟨rfl, hv67⟩ | ⟨rfl, hv67⟩
                · obtain ⟨rfl, rfl, p67, x67, f67⟩ := hv67
                  refine wk_if_ne (t := 75) (q := 73) dX5_isWorthRead_70 rfl rfl (by omega) (fun _ => ?_) (fun hq => absurd hq (by decide))
                  refine wk_aload_n (i := 0) (q := 76) dX5_isWorthRead_75 rfl rfl rfl ?_
                  refine wk_getR (fi := 5) (q := 79) dX5_isWorthRead_76 rfl fl_X5_29 rfl rfl hO.ob hO.r5 ?_
                  refine wk_iload_n (i := 2) (q := 80) dX5_isWorthRead_79 rfl rfl rfl ?_
                  refine wk_aald2 (q := 81) dX5_isWorthRead_80 rfl hO.s5 (by omega) (hO.w5 (by omega)) ?_
                  refine wk_iload (i := 4) (q := 83) dX5_isWorthRead_81 rfl rfl ?_
                  refine wk_iconst (q := 84) dX5_isWorthRead_83 rfl ?_
                  refine wk_iast (q := 85) dX5_isWorthRead_84 rfl (hO.v5 (by omega)) (by omega) ?_
                  skip
                  first
                    | (exfalso; omega)
                    | exact nx _ _ (decide_eq_true (Or.inl p27)) (by rw [ax, show (c (a + (j : Int)) == 120) = false from by simp only [beq_eq_false_iff_ne]; omega, Bool.and_false]; rfl) (k2 _ _ x27) (k1 _) (k3 _ (by unfold wv; rw [if_neg (by omega)]))
                    | (refine nx _ _ (decide_eq_true (Or.inr ⟨p67.1, p67.2, fun q => ?_⟩)) ?_ (x67.fr (fun i => up_na _ _ _ _ (by omega)) (up_na _ _ _ _ (by omega)) (up_na _ _ _ _ (by omega))) (fun b i q1 q2 => by rw [up_na _ _ _ _ q2, f67 b i q1]; exact k1 _ b i q1 q2) (fun i hi => ?_)
                       · by_cases z : (if allX c a j then (0 : Int) else 1) = 0
                         · omega
                         · rw [if_pos q.2] at z
                           exact z rfl
                       · rw [ax, show (c (a + (j : Int)) == 120) = true from by simp only [beq_iff_eq]; exact p67.2, Bool.and_true]
                       · by_cases q : i = j
                         · subst q
                           rw [up_eq]
                           unfold wv
                           rw [if_pos p67.2]
                         · rw [up_ni _ _ (by omega), f67 _ _ (by omega), up_ni _ _ (by omega), f27 _ _ (by omega)]
                           exact f3 i (by omega))
                · obtain ⟨rfl, rfl, p67, x67, f67⟩ := hv67
                  refine wk_if_ne (t := 75) (q := 73) dX5_isWorthRead_70 rfl rfl (by omega) (fun hq => absurd hq (by decide)) (fun _ => ?_)
                  skip
                  first
                    | (exfalso; omega)
                    | exact bad (decide_eq_false (fun q => by
                        rcases q with q | q
                        · exact p27 q
                        · exact p67 ⟨q.1, q.2.1⟩)) _ x67 (fun b i q1 q2 => by rw [f67 b i q1]; exact k1 _ b i q1 q2)
                    | exact bad (decide_eq_false (fun q => by
                        rcases q with q | q
                        · exact p27 q
                        · refine q.2.2 ⟨by omega, ?_⟩
                          cases z : allX c a j with
                          | true => rfl
                          | false =>
                            have y : (if allX c a j then (0 : Int) else 1) = 0 := by omega
                            rw [z] at y
                            cases y)) _ (k2 _ _ x27) (k1 _)
          · refine wk_iconst (q := 44) dX5_isWorthRead_43 rfl ?_
            refine wk_istore_n (i := 3) (lo' := [(0, _), (1, _), (2, _), (3, _), (4, _)]) (q := 45) dX5_isWorthRead_44 rfl rfl (by decide) rfl ?_
            refine wk_goto (t := 85) dX5_isWorthRead_45 rfl ?_
            skip
            first
              | (exfalso; omega)
              | exact nx _ _ (decide_eq_true (Or.inl p27)) (by rw [ax, show (c (a + (j : Int)) == 120) = false from by simp only [beq_eq_false_iff_ne]; omega, Bool.and_false]; rfl) (k2 _ _ x27) (k1 _) (k3 _ (by unfold wv; rw [if_neg (by omega)]))
              | (refine nx _ _ (decide_eq_true (Or.inr ⟨p67.1, p67.2, fun q => ?_⟩)) ?_ (x67.fr (fun i => up_na _ _ _ _ (by omega)) (up_na _ _ _ _ (by omega)) (up_na _ _ _ _ (by omega))) (fun b i q1 q2 => by rw [up_na _ _ _ _ q2, f67 b i q1]; exact k1 _ b i q1 q2) (fun i hi => ?_)
                 · by_cases z : (if allX c a j then (0 : Int) else 1) = 0
                   · omega
                   · rw [if_pos q.2] at z
                     exact z rfl
                 · rw [ax, show (c (a + (j : Int)) == 120) = true from by simp only [beq_iff_eq]; exact p67.2, Bool.and_true]
                 · by_cases q : i = j
                   · subst q
                     rw [up_eq]
                     unfold wv
                     rw [if_pos p67.2]
                   · rw [up_ni _ _ (by omega), f67 _ _ (by omega), up_ni _ _ (by omega), f27 _ _ (by omega)]
                     exact f3 i (by omega))
        · obtain ⟨rfl, rfl, p27, x27, f27⟩ := hv27
          have k1 : ∀ v : Int, ∀ b i, ¬ (b = d ∧ i = 10) → b ≠ d + 7 + g.toNat → up I27 (d + 7 + g.toNat) (j : Int) v b i = I b i := fun v b i q1 q2 => by rw [up_na _ _ _ _ q2, f27 b i q1]; exact f2 b i q1 q2
          have k2 : ∀ (v : Int) (a' : Int), txI I27 d s c e a' → txI (up I27 (d + 7 + g.toNat) (j : Int) v) d s c e a' := fun v a' z => z.fr (fun i => up_na _ _ _ _ (by omega)) (up_na _ _ _ _ (by omega)) (up_na _ _ _ _ (by omega))
          have e6' : ∀ v : Int, up I27 (d + 7 + g.toNat) (j : Int) v d 6 = (M : Int) := fun v => by rw [up_na _ _ _ _ (by omega), f27 _ _ (by omega)]; exact e6
          have k3 : ∀ v : Int, v = wv c (a + j) → ∀ i : Nat, i < j + 1 → up I27 (d + 7 + g.toNat) (j : Int) v (d + 7 + g.toNat) i = wv c (a + i) := fun v hv i hi => by
            by_cases q : i = j
            · subst q
              rw [up_eq]
              exact hv
            · rw [up_ni _ _ (by omega), f27 _ _ (by omega)]
              exact f3 i (by omega)
          refine wk_iast (q := 31) dX5_isWorthRead_30 rfl (hO.v5 (by omega)) (by omega) ?_
          refine wk_aload_n (i := 0) (q := 32) dX5_isWorthRead_31 rfl rfl rfl ?_
          refine wk_getR (fi := 5) (q := 35) dX5_isWorthRead_32 rfl fl_X5_29 rfl rfl hO.ob hO.r5 ?_
          refine wk_iload_n (i := 2) (q := 36) dX5_isWorthRead_35 rfl rfl rfl ?_
          refine wk_aald2 (q := 37) dX5_isWorthRead_36 rfl hO.s5 (by omega) (hO.w5 (by omega)) ?_
          refine wk_iload (i := 4) (q := 39) dX5_isWorthRead_37 rfl rfl ?_
          refine wk_iald (q := 40) dX5_isWorthRead_39 rfl (hO.v5 (by omega)) (by omega) ?_
          rw [up_eq]
          refine wk_if_lt (t := 48) (q := 43) dX5_isWorthRead_40 rfl rfl (by omega) (fun hc40 => ?_) (fun hc40 => ?_)
          · refine wk_iload (i := 4) (q := 50) dX5_isWorthRead_48 rfl rfl ?_
            refine wk_aload_n (i := 0) (q := 51) dX5_isWorthRead_50 rfl rfl rfl ?_
            have e6'' := e6' (-1)
            refine wk_getI (fi := 6) (q := 54) dX5_isWorthRead_51 rfl fl_X5_60 rfl rfl hO.ob ?_
            refine wk_iconst (q := 55) dX5_isWorthRead_54 rfl ?_
            refine wk_isub (q := 56) dX5_isWorthRead_55 rfl ?_
            refine wk_icmp_ne (t := 63) (q := 59) dX5_isWorthRead_56 rfl rfl (by omega) (by omega) (fun hc56 => ?_) (fun hc56 => ?_)
            · refine wk_aload_n (i := 0) (q := 64) dX5_isWorthRead_63 rfl rfl rfl ?_
              refine wk_aload_n (i := 1) (q := 65) dX5_isWorthRead_64 rfl rfl rfl ?_
              refine wk_bipush (q := 67) dX5_isWorthRead_65 rfl (by decide +kernel) ?_
              refine wk_cZ2 (q := 70) dX5_isWorthRead_67 rfl vl_X5_45 ⟨_, _, rfl⟩ hO.ob (ct_X5_isSign hO hS hds (k2 _ _ x27) (by omega)) (qRo_m ok_X5_isSign (by decide) (Nat.le_refl _) (Nat.le_refl _)) (Nat.le_of_ble_eq_true rfl) (fun v67 I67 L67 R67 hv67 => ?_)
              rcases hv67 with ⟨rfl, hv67⟩ | ⟨rfl, hv67⟩
              · obtain ⟨rfl, rfl, p67, x67, f67⟩ := hv67
                refine wk_if_ne (t := 75) (q := 73) dX5_isWorthRead_70 rfl rfl (by omega) (fun _ => ?_) (fun hq => absurd hq (by decide))
                refine wk_aload_n (i := 0) (q := 76) dX5_isWorthRead_75 rfl rfl rfl ?_
                refine wk_getR (fi := 5) (q := 79) dX5_isWorthRead_76 rfl fl_X5_29 rfl rfl hO.ob hO.r5 ?_
                refine wk_iload_n (i := 2) (q := 80) dX5_isWorthRead_79 rfl rfl rfl ?_
                refine wk_aald2 (q := 81) dX5_isWorthRead_80 rfl hO.s5 (by omega) (hO.w5 (by omega)) ?_
                refine wk_iload (i := 4) (q := 83) dX5_isWorthRead_81 rfl rfl ?_
                refine wk_iconst (q := 84) dX5_isWorthRead_83 rfl ?_
                refine wk_iast (q := 85) dX5_isWorthRead_84 rfl (hO.v5 (by omega)) (by omega) ?_
                skip
                first
                  | (exfalso; omega)
                  | exact nx _ _ (decide_eq_true (Or.inl p27)) (by rw [ax, show (c (a + (j : Int)) == 120) = false from by simp only [beq_eq_false_iff_ne]; omega, Bool.and_false]; rfl) (k2 _ _ x27) (k1 _) (k3 _ (by unfold wv; rw [if_neg (by omega)]))
                  | (refine nx _ _ (decide_eq_true (Or.inr ⟨p67.1, p67.2, fun q => ?_⟩)) ?_ (x67.fr (fun i => up_na _ _ _ _ (by omega)) (up_na _ _ _ _ (by omega)) (up_na _ _ _ _ (by omega))) (fun b i q1 q2 => by rw [up_na _ _ _ _ q2, f67 b i q1]; exact k1 _ b i q1 q2) (fun i hi => ?_)
                     · by_cases z : (if allX c a j then (0 : Int) else 1) = 0
                       · omega
                       · rw [if_pos q.2] at z
                         exact z rfl
                     · rw [ax, show (c (a + (j : Int)) == 120) = true from by simp only [beq_iff_eq]; exact p67.2, Bool.and_true]
                     · by_cases q : i = j
                       · subst q
                         rw [up_eq]
                         unfold wv
                         rw [if_pos p67.2]
                       · rw [up_ni _ _ (by omega), f67 _ _ (by omega), up_ni _ _ (by omega), f27 _ _ (by omega)]
                         exact f3 i (by omega))
              · obtain ⟨rfl, rfl, p67, x67, f67⟩ := hv67
                refine wk_if_ne (t := 75) (q := 73) dX5_isWorthRead_70 rfl rfl (by omega) (fun hq => absurd hq (by decide)) (fun _ => ?_)
                skip
                first
                  | (exfalso; omega)
                  | exact bad (decide_eq_false (fun q => by
                      rcases q with q | q
                      · exact p27 q
                      · exact p67 ⟨q.1, q.2.1⟩)) _ x67 (fun b i q1 q2 => by rw [f67 b i q1]; exact k1 _ b i q1 q2)
                  | exact bad (decide_eq_false (fun q => by
                      rcases q with q | q
                      · exact p27 q
                      · refine q.2.2 ⟨by omega, ?_⟩
                        cases z : allX c a j with
                        | true => rfl
                        | false =>
                          have y : (if allX c a j then (0 : Int) else 1) = 0 := by omega
                          rw [z] at y
                          cases y)) _ (k2 _ _ x27) (k1 _)
            · refine wk_iload_n (i := 3) (q := 60) dX5_isWorthRead_59 rfl rfl rfl ?_
              refine wk_if_eq (t := 73) (q := 63) dX5_isWorthRead_60 rfl rfl (by omega) (fun hc60 => ?_) (fun hc60 => ?_)
              · skip
                first
                  | (exfalso; omega)
                  | exact bad (decide_eq_false (fun q => by
                      rcases q with q | q
                      · exact p27 q
                      · exact p67 ⟨q.1, q.2.1⟩)) _ x67 (fun b i q1 q2 => by rw [f67 b i q1]; exact k1 _ b i q1 q2)
                  | exact bad (decide_eq_false (fun q => by
                      rcases q with q | q
                      · exact p27 q
                      · refine q.2.2 ⟨by omega, ?_⟩
                        cases z : allX c a j with
                        | true => rfl
                        | false =>
                          have y : (if allX c a j then (0 : Int) else 1) = 0 := by omega
                          rw [z] at y
                          cases y)) _ (k2 _ _ x27) (k1 _)
              · refine wk_aload_n (i := 0) (q := 64) dX5_isWorthRead_63 rfl rfl rfl ?_
                refine wk_aload_n (i := 1) (q := 65) dX5_isWorthRead_64 rfl rfl rfl ?_
                refine wk_bipush (q := 67) dX5_isWorthRead_65 rfl (by decide +kernel) ?_
                refine wk_cZ2 (q := 70) dX5_isWorthRead_67 rfl vl_X5_45 ⟨_, _, rfl⟩ hO.ob (ct_X5_isSign hO hS hds (k2 _ _ x27) (by omega)) (qRo_m ok_X5_isSign (by decide) (Nat.le_refl _) (Nat.le_refl _)) (Nat.le_of_ble_eq_true rfl) (fun v67 I67 L67 R67 hv67 => ?_)
                rcases hv67 with ⟨rfl, hv67⟩ | ⟨rfl, hv67⟩
                · obtain ⟨rfl, rfl, p67, x67, f67⟩ := hv67
                  refine wk_if_ne (t := 75) (q := 73) dX5_isWorthRead_70 rfl rfl (by omega) (fun _ => ?_) (fun hq => absurd hq (by decide))
                  refine wk_aload_n (i := 0) (q := 76) dX5_isWorthRead_75 rfl rfl rfl ?_
                  refine wk_getR (fi := 5) (q := 79) dX5_isWorthRead_76 rfl fl_X5_29 rfl rfl hO.ob hO.r5 ?_
                  refine wk_iload_n (i := 2) (q := 80) dX5_isWorthRead_79 rfl rfl rfl ?_
                  refine wk_aald2 (q := 81) dX5_isWorthRead_80 rfl hO.s5 (by omega) (hO.w5 (by omega)) ?_
                  refine wk_iload (i := 4) (q := 83) dX5_isWorthRead_81 rfl rfl ?_
                  refine wk_iconst (q := 84) dX5_isWorthRead_83 rfl ?_
                  refine wk_iast (q := 85) dX5_isWorthRead_84 rfl (hO.v5 (by omega)) (by omega) ?_
                  skip
                  first
                    | (exfalso; omega)
                    | exact nx _ _ (decide_eq_true (Or.inl p27)) (by rw [ax, show (c (a + (j : Int)) == 120) = false from by simp only [beq_eq_false_iff_ne]; omega, Bool.and_false]; rfl) (k2 _ _ x27) (k1 _) (k3 _ (by unfold wv; rw [if_neg (by omega)]))
                    | (refine nx _ _ (decide_eq_true (Or.inr ⟨p67.1, p67.2, fun q => ?_⟩)) ?_ (x67.fr (fun i => up_na _ _ _ _ (by omega)) (up_na _ _ _ _ (by omega)) (up_na _ _ _ _ (by omega))) (fun b i q1 q2 => by rw [up_na _ _ _ _ q2, f67 b i q1]; exact k1 _ b i q1 q2) (fun i hi => ?_)
                       · by_cases z : (if allX c a j then (0 : Int) else 1) = 0
                         · omega
                         · rw [if_pos q.2] at z
                           exact z rfl
                       · rw [ax, show (c (a + (j : Int)) == 120) = true from by simp only [beq_iff_eq]; exact p67.2, Bool.and_true]
                       · by_cases q : i = j
                         · subst q
                           rw [up_eq]
                           unfold wv
                           rw [if_pos p67.2]
                         · rw [up_ni _ _ (by omega), f67 _ _ (by omega), up_ni _ _ (by omega), f27 _ _ (by omega)]
                           exact f3 i (by omega))
                · obtain ⟨rfl, rfl, p67, x67, f67⟩ := hv67
                  refine wk_if_ne (t := 75) (q := 73) dX5_isWorthRead_70 rfl rfl (by omega) (fun hq => absurd hq (by decide)) (fun _ => ?_)
                  skip
                  first
                    | (exfalso; omega)
                    | exact bad (decide_eq_false (fun q => by
                        rcases q with q | q
                        · exact p27 q
                        · exact p67 ⟨q.1, q.2.1⟩)) _ x67 (fun b i q1 q2 => by rw [f67 b i q1]; exact k1 _ b i q1 q2)
                    | exact bad (decide_eq_false (fun q => by
                        rcases q with q | q
                        · exact p27 q
                        · refine q.2.2 ⟨by omega, ?_⟩
                          cases z : allX c a j with
                          | true => rfl
                          | false =>
                            have y : (if allX c a j then (0 : Int) else 1) = 0 := by omega
                            rw [z] at y
                            cases y)) _ (k2 _ _ x27) (k1 _)
          · refine wk_iconst (q := 44) dX5_isWorthRead_43 rfl ?_
            refine wk_istore_n (i := 3) (lo' := [(0, _), (1, _), (2, _), (3, _), (4, _)]) (q := 45) dX5_isWorthRead_44 rfl rfl (by decide) rfl ?_
            refine wk_goto (t := 85) dX5_isWorthRead_45 rfl ?_
            skip
            first
              | (exfalso; omega)
              | exact nx _ _ (decide_eq_true (Or.inl p27)) (by rw [ax, show (c (a + (j : Int)) == 120) = false from by simp only [beq_eq_false_iff_ne]; omega, Bool.and_false]; rfl) (k2 _ _ x27) (k1 _) (k3 _ (by unfold wv; rw [if_neg (by omega)]))
              | (refine nx _ _ (decide_eq_true (Or.inr ⟨p67.1, p67.2, fun q => ?_⟩)) ?_ (x67.fr (fun i => up_na _ _ _ _ (by omega)) (up_na _ _ _ _ (by omega)) (up_na _ _ _ _ (by omega))) (fun b i q1 q2 => by rw [up_na _ _ _ _ q2, f67 b i q1]; exact k1 _ b i q1 q2) (fun i hi => ?_)
                 · by_cases z : (if allX c a j then (0 : Int) else 1) = 0
                   · omega
                   · rw [if_pos q.2] at z
                     exact z rfl
                 · rw [ax, show (c (a + (j : Int)) == 120) = true from by simp only [beq_iff_eq]; exact p67.2, Bool.and_true]
                 · by_cases q : i = j
                   · subst q
                     rw [up_eq]
                     unfold wv
                     rw [if_pos p67.2]
                   · rw [up_ni _ _ (by omega), f67 _ _ (by omega), up_ni _ _ (by omega), f27 _ _ (by omega)]
                     exact f3 i (by omega))
  refine Ct.of (lo := [(0, _), (1, _), (2, _)]) ok_X5_isWorthRead (Nat.le_of_ble_eq_true rfl) rfl ?_
  refine wk_iconst (q := 1) dX5_isWorthRead_0 rfl ?_
  refine wk_istore_n (i := 3) (lo' := [(0, _), (1, _), (2, _), (3, _)]) (q := 2) dX5_isWorthRead_1 rfl rfl (by decide) rfl ?_
  refine wk_iconst (q := 3) dX5_isWorthRead_2 rfl ?_
  refine wk_istore (i := 4) (lo' := [(0, _), (1, _), (2, _), (3, _), (4, _)]) (q := 5) dX5_isWorthRead_3 rfl (by decide) rfl ?_
  exact loop 0 (Nat.zero_le _) rfl I (by rw [show a + ((0 : Nat) : Int) = a by omega]; exact h) (fun _ _ _ _ => rfl) (fun i hi => absurd hi (by omega))
end TEXT2
