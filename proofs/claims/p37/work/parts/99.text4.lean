/-! TABLE, the class: a text is read; a table begins -/
theorem rdR_0 {c : Int → Int} {b e : Int} (h : ¬ (b < e ∧ c b = 100)) : rdR c b e = (0, b, 0) := if_pos h
theorem rdR_1 {c : Int → Int} {b e : Int} (h0 : b < e ∧ c b = 100) (h : ¬ (dgOk c e (b + 1) 2 6 ∧ fstN (dsB c e (b + 2)) (2 * mOf c b) = 2 * mOf c b)) : rdR c b e = (0, (if ¬ dgOk c e (b + 1) 2 6 then b + 1 else b + 2 + fstN (dsB c e (b + 2)) (2 * mOf c b)), 0) := by
  unfold rdR
  rw [if_neg (fun q => q h0)]
  by_cases h1 : dgOk c e (b + 1) 2 6
  · rw [if_neg (show ¬ ¬ dgOk c e (b + 1) 2 6 from fun q => q h1), if_pos (show fstN (dsB c e (b + 2)) (2 * mOf c b) ≠ 2 * mOf c b from fun q => h ⟨h1, q⟩), if_neg (show ¬ ¬ dgOk c e (b + 1) 2 6 from fun q => q h1)]
  · rw [if_pos h1, if_pos h1]
theorem rdR_2 {c : Int → Int} {b e : Int} (h0 : b < e ∧ c b = 100) (h : dgOk c e (b + 1) 2 6 ∧ fstN (dsB c e (b + 2)) (2 * mOf c b) = 2 * mOf c b) : rdR c b e = gEnd c e (mOf c b) 7 0 (b + 2 + 2 * mOf c b) := by
  unfold rdR
  rw [if_neg (fun q => q h0), if_neg (fun q => q h.1), if_neg (fun q => q h.2)]
section TEXT4
variable {l : Launch} {E : qEv} {n : Nat} {sh : qSh} {I L : qI} {R : qR}
theorem ct_X5_isRead {d s : Nat} {c : Int → Int} {i z : Int} (hO : qTold E.2.2 n sh R d) (hS : qSheet E.2.2 n sh R s) (hds : d + 14 ≤ s) (hc : ∀ p, 0 ≤ p → p < 100 → I (s + 1) p = c p ∧ in32 (c p)) (hi : 0 ≤ i) (hz : 0 ≤ z) (hiz : i + z ≤ 100) :
    Ct l E 4 mX5_isRead [.ref d, .ref s, .int (zI i), .int (zI z)] (n, sh, I, L, R) 0 0 (qZ n sh (fun v I' L' R' => (v = 1 ∧ L' = L ∧ R' = R ∧ (rdR c i (i + z)).1 = 1 ∧ (∀ b j, ¬ (d ≤ b ∧ b < d + 14) → I' b j = I b j) ∧ I' d 8 = i ∧ shT I' d (rdT c i (i + z))) ∨ (v = 0 ∧ L' = L ∧ R' = R ∧ ¬ (rdR c i (i + z)).1 = 1 ∧ (∀ b j, ¬ (d ≤ b ∧ b < d + 14) → I' b j = I b j) ∧ I' d 8 = i ∧ I' d 10 = (rdR c i (i + z)).2.1))) := by
  obtain ⟨e, he⟩ : ∃ e, e = i + z := ⟨_, rfl⟩
  refine Ct.of (lo := [(0, _), (1, _), (2, _), (3, _)]) ok_X5_isRead (Nat.le_of_ble_eq_true rfl) rfl ?_
  rw [← he]
  refine wk_aload_n (i := 0) (q := 1) dX5_isRead_0 rfl rfl rfl ?_
  refine wk_iload_n (i := 2) (q := 2) dX5_isRead_1 rfl rfl rfl ?_
  refine wk_putI (fi := 8) (q := 5) dX5_isRead_2 rfl fl_X5_32 fw_5_8 rfl rfl hO.ob ?_
  refine wk_aload_n (i := 0) (q := 6) dX5_isRead_5 rfl rfl rfl ?_
  refine wk_iload_n (i := 2) (q := 7) dX5_isRead_6 rfl rfl rfl ?_
  refine wk_iload_n (i := 3) (q := 8) dX5_isRead_7 rfl rfl rfl ?_
  refine wk_iadd (q := 9) dX5_isRead_8 rfl ?_
  rw [← he]
  refine wk_putI (fi := 9) (q := 12) dX5_isRead_9 rfl fl_X5_36 fw_5_9 rfl rfl hO.ob ?_
  refine wk_aload_n (i := 0) (q := 13) dX5_isRead_12 rfl rfl rfl ?_
  refine wk_iload_n (i := 2) (q := 14) dX5_isRead_13 rfl rfl rfl ?_
  refine wk_putI (fi := 10) (q := 17) dX5_isRead_14 rfl fl_X5_39 fw_5_10 rfl rfl hO.ob ?_
  refine wk_aload_n (i := 0) (q := 18) dX5_isRead_17 rfl rfl rfl ?_
  refine wk_iconst (q := 19) dX5_isRead_18 rfl ?_
  refine wk_putI (fi := 7) (q := 22) dX5_isRead_19 rfl fl_X5_42 fw_5_7 rfl rfl hO.ob ?_
  have x0 : txI (up (up (up (up I d 8 i) d 9 e) d 10 i) d 7 0) d s c e i := ⟨fun p p0 p1 => by rw [up_na _ _ _ _ (by omega), up_na _ _ _ _ (by omega), up_na _ _ _ _ (by omega), up_na _ _ _ _ (by omega)]; exact hc p p0 p1, by rw [up_ni _ _ (by omega), up_ni _ _ (by omega), up_eq], by rw [up_ni _ _ (by omega), up_eq], by omega, by omega, by omega, by omega⟩
  have g0 : ∀ b j, ¬ (d ≤ b ∧ b < d + 14) → up (up (up (up I d 8 i) d 9 e) d 10 i) d 7 0 b j = I b j := fun b j q => by rw [up_na _ _ _ _ (by omega), up_na _ _ _ _ (by omega), up_na _ _ _ _ (by omega), up_na _ _ _ _ (by omega)]
  have g8 : up (up (up (up I d 8 i) d 9 e) d 10 i) d 7 0 d 8 = i := by rw [up_ni _ _ (by omega), up_ni _ _ (by omega), up_ni _ _ (by omega), up_eq]
  have g7 : up (up (up (up I d 8 i) d 9 e) d 10 i) d 7 0 d 7 = 0 := up_eq _ _ _ _
  generalize up (up (up (up I d 8 i) d 9 e) d 10 i) d 7 0 = J at x0 g0 g8 g7 ⊢
  refine wk_aload_n (i := 0) (q := 23) dX5_isRead_22 rfl rfl rfl ?_
  refine wk_aload_n (i := 1) (q := 24) dX5_isRead_23 rfl rfl rfl ?_
  refine wk_bipush (q := 26) dX5_isRead_24 rfl (by decide +kernel) ?_
  refine wk_cZ2 (q := 29) dX5_isRead_26 rfl vl_X5_45 ⟨_, _, rfl⟩ hO.ob (ct_X5_isSign hO hS hds x0 (by omega)) (qRo_m ok_X5_isSign (by decide) (Nat.le_refl _) (Nat.le_refl _)) (Nat.le_of_ble_eq_true rfl) (fun v26 I26 L26 R26 hv26 => ?_)
  rcases hv26 with ⟨rfl, hv26⟩ | ⟨rfl, hv26⟩
  · obtain ⟨rfl, rfl, p26, x26, f26⟩ := hv26
    refine wk_if_eq (t := 52) (q := 32) dX5_isRead_29 rfl rfl (by omega) (fun hq => absurd hq (by decide)) (fun _ => ?_)
    refine wk_aload_n (i := 0) (q := 33) dX5_isRead_32 rfl rfl rfl ?_
    refine wk_aload_n (i := 1) (q := 34) dX5_isRead_33 rfl rfl rfl ?_
    refine wk_cZ1 (q := 37) dX5_isRead_34 rfl vl_X5_49 ⟨_, _, rfl⟩ hO.ob (ct_X5_areDishesRead hO hS hds x26) (qRo_m ok_X5_areDishesRead (by decide) (Nat.le_refl _) (Nat.le_refl _)) (Nat.le_of_ble_eq_true rfl) (fun v34 I34 L34 R34 hv34 => ?_)
    rcases hv34 with ⟨rfl, hv34⟩ | ⟨rfl, hv34⟩
    · obtain ⟨rfl, rfl, p34, x34, f34⟩ := hv34
      refine wk_if_eq (t := 52) (q := 40) dX5_isRead_37 rfl rfl (by omega) (fun hq => absurd hq (by decide)) (fun _ => ?_)
      refine wk_aload_n (i := 0) (q := 41) dX5_isRead_40 rfl rfl rfl ?_
      refine wk_aload_n (i := 1) (q := 42) dX5_isRead_41 rfl rfl rfl ?_
      obtain ⟨k1, k2, k3⟩ := f34
      have hm : (mOf c i : Int) = c (i + 1) - 48 := by have := p34.1; unfold mOf; omega
      refine wk_cZ1 (q := 45) dX5_isRead_42 rfl vl_X5_53 ⟨_, _, rfl⟩ hO.ob (ct_X5_areGuestsRead (M := mOf c i) hO hS hds x34 k2 (by have := p34.1; omega) (by rw [k1 _ _ (by omega) (by omega) (by omega), f26 _ _ (by omega)]; exact g7)) (qRo_m ok_X5_areGuestsRead (by decide) (Nat.le_refl _) (Nat.le_refl _)) (Nat.le_of_ble_eq_true rfl) (fun v42 I42 L42 R42 hv42 => ?_)
      rcases hv42 with ⟨rfl, hv42⟩ | ⟨rfl, hv42⟩
      · obtain ⟨rfl, rfl, p42, x42, f42⟩ := hv42
        refine wk_if_eq (t := 52) (q := 48) dX5_isRead_45 rfl rfl (by omega) (fun hq => absurd hq (by decide)) (fun _ => ?_)
        refine wk_iconst (q := 49) dX5_isRead_48 rfl ?_
        refine wk_goto (t := 53) dX5_isRead_49 rfl ?_
        refine wk_zret dX5_isRead_53 rfl (by omega) ⟨Nat.le_refl _, Nat.le_refl _⟩ rfl ?_
        first
        | (have z0 := rdR_0 p26
           exact ⟨_, _, _, _, rfl, rfl, Or.inr ⟨rfl, rfl, rfl, by rw [z0]; show ¬ (0 : Int) = 1; decide, fun b j q => by rw [f26 b j (by omega)]; exact g0 b j q, by rw [f26 _ _ (by omega)]; exact g8, by rw [z0]; exact x26.2.2.1⟩⟩)
        | (have z0 := rdR_1 p26 p34
           exact ⟨_, _, _, _, rfl, rfl, Or.inr ⟨rfl, rfl, rfl, by rw [z0]; show ¬ (0 : Int) = 1; decide, fun b j q => by rw [f34.1 b j q, f26 b j (by omega)]; exact g0 b j q, by rw [f34.2, f26 _ _ (by omega)]; exact g8, by rw [z0]; exact x34.2.2.1⟩⟩)
        | (have z0 := rdR_2 p26 p34
           obtain ⟨m1, m2, m3⟩ := f42
           refine ⟨_, _, _, _, rfl, rfl, Or.inl ⟨rfl, rfl, rfl, by rw [z0]; exact p42, fun b j q => by rw [m1 b j (by omega) (by omega) (by omega), k1 b j (by omega) (by omega) (by omega), f26 b j (by omega)]; exact g0 b j q, by rw [m1 _ _ (by omega) (by omega) (by omega), k1 _ _ (by omega) (by omega) (by omega), f26 _ _ (by omega)]; exact g8, ?_⟩⟩
           have eng : (rdT c i e).ng = (((gEnd c e (mOf c i) 7 0 (i + 2 + 2 * mOf c i)).2.2 : Nat) : Int) := by
             show (((rdR c i e).2.2 : Nat) : Int) = _
             rw [z0]
           refine ⟨by rw [m1 _ _ (by omega) (by omega) (by omega)]; exact k2, by rw [m2, eng], fun a a0 a1 => ?_, fun g g0' g1 => ?_⟩
           · have a1' : a < (mOf c i : Int) := a1
             obtain ⟨j, rfl⟩ := Int.eq_ofNat_of_zero_le a0
             rw [m1 _ _ (by omega) (by omega) (by omega), m1 _ _ (by omega) (by omega) (by omega)]
             exact k3 j (by omega)
           · rw [eng] at g1
             obtain ⟨j, rfl⟩ := Int.eq_ofNat_of_zero_le g0'
             obtain ⟨y1, y2, y3, y4⟩ := m3 j (by omega)
             have ep : gpT c i e (j : Int) = gp c e (mOf c i) (i + 2 + 2 * mOf c i) j := by
               unfold gpT
               rw [Int.toNat_natCast]
             refine ⟨?_, ?_, ?_, fun a a0 a1 => ?_⟩
             · show _ = kdL c (gpT c i e (j : Int) + 1)
               rw [ep]
               exact y1
             · show _ = c (gpT c i e (j : Int) + 2) - 48
               rw [ep]
               exact y2
             · show _ = if c (gpT c i e (j : Int) + 1) = 112 then c (gpT c i e (j : Int) + 3) - 48 else 0
               rw [ep]
               exact y3
             · have a1' : a < (mOf c i : Int) := a1
               obtain ⟨k, rfl⟩ := Int.eq_ofNat_of_zero_le a0
               show _ = wv c (wOf c (gpT c i e (j : Int) + 1) + (k : Int))
               rw [ep]
               exact y4 k (by omega))
        | (have z0 := rdR_2 p26 p34
           exact ⟨_, _, _, _, rfl, rfl, Or.inr ⟨rfl, rfl, rfl, by rw [z0]; exact p42, fun b j q => by rw [f42.1 b j q, k1 b j (by omega) (by omega) (by omega), f26 b j (by omega)]; exact g0 b j q, by rw [f42.2, k1 _ _ (by omega) (by omega) (by omega), f26 _ _ (by omega)]; exact g8, by rw [z0]; exact x42.2.2.1⟩⟩)
      · obtain ⟨rfl, rfl, p42, x42, f42⟩ := hv42
        refine wk_if_eq (t := 52) (q := 48) dX5_isRead_45 rfl rfl (by omega) (fun _ => ?_) (fun hq => absurd hq (by decide))
        refine wk_iconst (q := 53) dX5_isRead_52 rfl ?_
        refine wk_zret dX5_isRead_53 rfl (by omega) ⟨Nat.le_refl _, Nat.le_refl _⟩ rfl ?_
        first
        | (have z0 := rdR_0 p26
           exact ⟨_, _, _, _, rfl, rfl, Or.inr ⟨rfl, rfl, rfl, by rw [z0]; show ¬ (0 : Int) = 1; decide, fun b j q => by rw [f26 b j (by omega)]; exact g0 b j q, by rw [f26 _ _ (by omega)]; exact g8, by rw [z0]; exact x26.2.2.1⟩⟩)
        | (have z0 := rdR_1 p26 p34
           exact ⟨_, _, _, _, rfl, rfl, Or.inr ⟨rfl, rfl, rfl, by rw [z0]; show ¬ (0 : Int) = 1; decide, fun b j q => by rw [f34.1 b j q, f26 b j (by omega)]; exact g0 b j q, by rw [f34.2, f26 _ _ (by omega)]; exact g8, by rw [z0]; exact x34.2.2.1⟩⟩)
        | (have z0 := rdR_2 p26 p34
           obtain ⟨m1, m2, m3⟩ := f42
           refine ⟨_, _, _, _, rfl, rfl, Or.inl ⟨rfl, rfl, rfl, by rw [z0]; exact p42, fun b j q => by rw [m1 b j (by omega) (by omega) (by omega), k1 b j (by omega) (by omega) (by omega), f26 b j (by omega)]; exact g0 b j q, by rw [m1 _ _ (by omega) (by omega) (by omega), k1 _ _ (by omega) (by omega) (by omega), f26 _ _ (by omega)]; exact g8, ?_⟩⟩
           have eng : (rdT c i e).ng = (((gEnd c e (mOf c i) 7 0 (i + 2 + 2 * mOf c i)).2.2 : Nat) : Int) := by
             show (((rdR c i e).2.2 : Nat) : Int) = _
             rw [z0]
           refine ⟨by rw [m1 _ _ (by omega) (by omega) (by omega)]; exact k2, by rw [m2, eng], fun a a0 a1 => ?_, fun g g0' g1 => ?_⟩
           · have a1' : a < (mOf c i : Int) := a1
             obtain ⟨j, rfl⟩ := Int.eq_ofNat_of_zero_le a0
             rw [m1 _ _ (by omega) (by omega) (by omega), m1 _ _ (by omega) (by omega) (by omega)]
             exact k3 j (by omega)
           · rw [eng] at g1
             obtain ⟨j, rfl⟩ := Int.eq_ofNat_of_zero_le g0'
             obtain ⟨y1, y2, y3, y4⟩ := m3 j (by omega)
             have ep : gpT c i e (j : Int) = gp c e (mOf c i) (i + 2 + 2 * mOf c i) j := by
               unfold gpT
               rw [Int.toNat_natCast]
             refine ⟨?_, ?_, ?_, fun a a0 a1 => ?_⟩
             · show _ = kdL c (gpT c i e (j : Int) + 1)
               rw [ep]
               exact y1
             · show _ = c (gpT c i e (j : Int) + 2) - 48
               rw [ep]
               exact y2
             · show _ = if c (gpT c i e (j : Int) + 1) = 112 then c (gpT c i e (j : Int) + 3) - 48 else 0
               rw [ep]
               exact y3
             · have a1' : a < (mOf c i : Int) := a1
               obtain ⟨k, rfl⟩ := Int.eq_ofNat_of_zero_le a0
               show _ = wv c (wOf c (gpT c i e (j : Int) + 1) + (k : Int))
               rw [ep]
               exact y4 k (by omega))
        | (have z0 := rdR_2 p26 p34
           exact ⟨_, _, _, _, rfl, rfl, Or.inr ⟨rfl, rfl, rfl, by rw [z0]; exact p42, fun b j q => by rw [f42.1 b j q, k1 b j (by omega) (by omega) (by omega), f26 b j (by omega)]; exact g0 b j q, by rw [f42.2, k1 _ _ (by omega) (by omega) (by omega), f26 _ _ (by omega)]; exact g8, by rw [z0]; exact x42.2.2.1⟩⟩)
    · obtain ⟨rfl, rfl, p34, x34, f34⟩ := hv34
      refine wk_if_eq (t := 52) (q := 40) dX5_isRead_37 rfl rfl (by omega) (fun _ => ?_) (fun hq => absurd hq (by decide))
      refine wk_iconst (q := 53) dX5_isRead_52 rfl ?_
      refine wk_zret dX5_isRead_53 rfl (by omega) ⟨Nat.le_refl _, Nat.le_refl _⟩ rfl ?_
      first
      | (have z0 := rdR_0 p26
         exact ⟨_, _, _, _, rfl, rfl, Or.inr ⟨rfl, rfl, rfl, by rw [z0]; show ¬ (0 : Int) = 1; decide, fun b j q => by rw [f26 b j (by omega)]; exact g0 b j q, by rw [f26 _ _ (by omega)]; exact g8, by rw [z0]; exact x26.2.2.1⟩⟩)
      | (have z0 := rdR_1 p26 p34
         exact ⟨_, _, _, _, rfl, rfl, Or.inr ⟨rfl, rfl, rfl, by rw [z0]; show ¬ (0 : Int) = 1; decide, fun b j q => by rw [f34.1 b j q, f26 b j (by omega)]; exact g0 b j q, by rw [f34.2, f26 _ _ (by omega)]; exact g8, by rw [z0]; exact x34.2.2.1⟩⟩)
      | (have z0 := rdR_2 p26 p34
         obtain ⟨m1, m2, m3⟩ := f42
         refine ⟨_, _, _, _, rfl, rfl, Or.inl ⟨rfl, rfl, rfl, by rw [z0]; exact p42, fun b j q => by rw [m1 b j (by omega) (by omega) (by omega), k1 b j (by omega) (by omega) (by omega), f26 b j (by omega)]; exact g0 b j q, by rw [m1 _ _ (by omega) (by omega) (by omega), k1 _ _ (by omega) (by omega) (by omega), f26 _ _ (by omega)]; exact g8, ?_⟩⟩
         have eng : (rdT c i e).ng = (((gEnd c e (mOf c i) 7 0 (i + 2 + 2 * mOf c i)).2.2 : Nat) : Int) := by
           show (((rdR c i e).2.2 : Nat) : Int) = _
           rw [z0]
         refine ⟨by rw [m1 _ _ (by omega) (by omega) (by omega)]; exact k2, by rw [m2, eng], fun a a0 a1 => ?_, fun g g0' g1 => ?_⟩
         · have a1' : a < (mOf c i : Int) := a1
           obtain ⟨j, rfl⟩ := Int.eq_ofNat_of_zero_le a0
           rw [m1 _ _ (by omega) (by omega) (by omega), m1 _ _ (by omega) (by omega) (by omega)]
           exact k3 j (by omega)
         · rw [eng] at g1
           obtain ⟨j, rfl⟩ := Int.eq_ofNat_of_zero_le g0'
           obtain ⟨y1, y2, y3, y4⟩ := m3 j (by omega)
           have ep : gpT c i e (j : Int) = gp c e (mOf c i) (i + 2 + 2 * mOf c i) j := by
             unfold gpT
             rw [Int.toNat_natCast]
           refine ⟨?_, ?_, ?_, fun a a0 a1 => ?_⟩
           · show _ = kdL c (gpT c i e (j : Int) + 1)
             rw [ep]
             exact y1
           · show _ = c (gpT c i e (j : Int) + 2) - 48
             rw [ep]
             exact y2
           · show _ = if c (gpT c i e (j : Int) + 1) = 112 then c (gpT c i e (j : Int) + 3) - 48 else 0
             rw [ep]
             exact y3
           · have a1' : a < (mOf c i : Int) := a1
             obtain ⟨k, rfl⟩ := Int.eq_ofNat_of_zero_le a0
             show _ = wv c (wOf c (gpT c i e (j : Int) + 1) + (k : Int))
             rw [ep]
             exact y4 k (by omega))
      | (have z0 := rdR_2 p26 p34
         exact ⟨_, _, _, _, rfl, rfl, Or.inr ⟨rfl, rfl, rfl, by rw [z0]; exact p42, fun b j q => by rw [f42.1 b j q, k1 b j (by omega) (by omega) (by omega), f26 b j (by omega)]; exact g0 b j q, by rw [f42.2, k1 _ _ (by omega) (by omega) (by omega), f26 _ _ (by omega)]; exact g8, by rw [z0]; exact x42.2.2.1⟩⟩)
  · obtain ⟨rfl, rfl, p26, x26, f26⟩ := hv26
    refine wk_if_eq (t := 52) (q := 32) dX5_isRead_29 rfl rfl (by omega) (fun _ => ?_) (fun hq => absurd hq (by decide))
    refine wk_iconst (q := 53) dX5_isRead_52 rfl ?_
    refine wk_zret dX5_isRead_53 rfl (by omega) ⟨Nat.le_refl _, Nat.le_refl _⟩ rfl ?_
    first
    | (have z0 := rdR_0 p26
       exact ⟨_, _, _, _, rfl, rfl, Or.inr ⟨rfl, rfl, rfl, by rw [z0]; show ¬ (0 : Int) = 1; decide, fun b j q => by rw [f26 b j (by omega)]; exact g0 b j q, by rw [f26 _ _ (by omega)]; exact g8, by rw [z0]; exact x26.2.2.1⟩⟩)
    | (have z0 := rdR_1 p26 p34
       exact ⟨_, _, _, _, rfl, rfl, Or.inr ⟨rfl, rfl, rfl, by rw [z0]; show ¬ (0 : Int) = 1; decide, fun b j q => by rw [f34.1 b j q, f26 b j (by omega)]; exact g0 b j q, by rw [f34.2, f26 _ _ (by omega)]; exact g8, by rw [z0]; exact x34.2.2.1⟩⟩)
    | (have z0 := rdR_2 p26 p34
       obtain ⟨m1, m2, m3⟩ := f42
       refine ⟨_, _, _, _, rfl, rfl, Or.inl ⟨rfl, rfl, rfl, by rw [z0]; exact p42, fun b j q => by rw [m1 b j (by omega) (by omega) (by omega), k1 b j (by omega) (by omega) (by omega), f26 b j (by omega)]; exact g0 b j q, by rw [m1 _ _ (by omega) (by omega) (by omega), k1 _ _ (by omega) (by omega) (by omega), f26 _ _ (by omega)]; exact g8, ?_⟩⟩
       have eng : (rdT c i e).ng = (((gEnd c e (mOf c i) 7 0 (i + 2 + 2 * mOf c i)).2.2 : Nat) : Int) := by
         show (((rdR c i e).2.2 : Nat) : Int) = _
         rw [z0]
       refine ⟨by rw [m1 _ _ (by omega) (by omega) (by omega)]; exact k2, by rw [m2, eng], fun a a0 a1 => ?_, fun g g0' g1 => ?_⟩
       · have a1' : a < (mOf c i : Int) := a1
         obtain ⟨j, rfl⟩ := Int.eq_ofNat_of_zero_le a0
         rw [m1 _ _ (by omega) (by omega) (by omega), m1 _ _ (by omega) (by omega) (by omega)]
         exact k3 j (by omega)
       · rw [eng] at g1
         obtain ⟨j, rfl⟩ := Int.eq_ofNat_of_zero_le g0'
         obtain ⟨y1, y2, y3, y4⟩ := m3 j (by omega)
         have ep : gpT c i e (j : Int) = gp c e (mOf c i) (i + 2 + 2 * mOf c i) j := by
           unfold gpT
           rw [Int.toNat_natCast]
         refine ⟨?_, ?_, ?_, fun a a0 a1 => ?_⟩
         · show _ = kdL c (gpT c i e (j : Int) + 1)
           rw [ep]
           exact y1
         · show _ = c (gpT c i e (j : Int) + 2) - 48
           rw [ep]
           exact y2
         · show _ = if c (gpT c i e (j : Int) + 1) = 112 then c (gpT c i e (j : Int) + 3) - 48 else 0
           rw [ep]
           exact y3
         · have a1' : a < (mOf c i : Int) := a1
           obtain ⟨k, rfl⟩ := Int.eq_ofNat_of_zero_le a0
           show _ = wv c (wOf c (gpT c i e (j : Int) + 1) + (k : Int))
           rw [ep]
           exact y4 k (by omega))
    | (have z0 := rdR_2 p26 p34
       exact ⟨_, _, _, _, rfl, rfl, Or.inr ⟨rfl, rfl, rfl, by rw [z0]; exact p42, fun b j q => by rw [f42.1 b j q, k1 b j (by omega) (by omega) (by omega), f26 b j (by omega)]; exact g0 b j q, by rw [f42.2, k1 _ _ (by omega) (by omega) (by omega), f26 _ _ (by omega)]; exact g8, by rw [z0]; exact x42.2.2.1⟩⟩)
end TEXT4
