/-! TABLE, the class reads: guests, dishes, a text -/
def frG (I : qI) (d : Nat) (g : Int) : qI → Prop := fun I' => ∀ b i, ¬ (b = d ∧ i = 10) → ¬ ((b = d + 3 ∨ b = d + 4 ∨ b = d + 5) ∧ i = g) → b ≠ d + 7 + g.toNat → I' b i = I b i
def frA (I : qI) (d : Nat) : qI → Prop := fun I' => ∀ b i, ¬ (b = d ∧ (i = 10 ∨ i = 7)) → ¬ (d + 3 ≤ b ∧ b ≤ d + 5) → ¬ (d + 7 ≤ b ∧ b < d + 14) → I' b i = I b i
def frZ (I : qI) (d : Nat) : qI → Prop := fun I' => (∀ b i, ¬ (d ≤ b ∧ b < d + 14) → I' b i = I b i) ∧ I' d 8 = I d 8
/-- what is told of a guest whose text begins at a -/
def gdD (c : Int → Int) (M : Nat) (d : Nat) (a g : Int) (I' : qI) : Prop := I' (d + 3) g = kdL c (a + 1) ∧ I' (d + 4) g = c (a + 2) - 48 ∧ I' (d + 5) g = (if c (a + 1) = 112 then c (a + 3) - 48 else 0) ∧ ∀ i : Nat, i < M → I' (d + 7 + g.toNat) i = wv c (wOf c (a + 1) + i)
theorem dsB_e {c : Int → Int} {e p0 : Int} {j : Nat} : dsB c e p0 (2 * j) = true ↔ dgOk c e (p0 + 2 * (j : Int)) 1 9 := by
  unfold dsB
  rw [if_pos (by omega), decide_eq_true_iff, show p0 + ((2 * j : Nat) : Int) = p0 + 2 * (j : Int) by omega]
  constructor
  · intro h
    omega
  · intro h
    omega
theorem dsB_o {c : Int → Int} {e p0 : Int} {j : Nat} : dsB c e p0 (2 * j + 1) = true ↔ dgOk c e (p0 + 2 * (j : Int) + 1) 0 9 := by
  unfold dsB
  rw [if_neg (by omega), decide_eq_true_iff, show p0 + ((2 * j + 1 : Nat) : Int) = p0 + 2 * (j : Int) + 1 by omega]
  constructor
  · intro h
    omega
  · intro h
    omega
theorem gEnd_stop {c : Int → Int} {e : Int} {M : Nat} {f k : Nat} {a : Int} (h : f = 0 ∨ e ≤ a) : gEnd c e M f k a = (if 2 ≤ k ∧ a = e then 1 else 0, a, k) := by
  cases f with
  | zero => rfl
  | succ f =>
    unfold gEnd
    rw [if_pos (by omega)]
theorem gEnd_go {c : Int → Int} {e : Int} {M : Nat} {f k : Nat} {a : Int} (h : ¬ e ≤ a) : gEnd c e M (f + 1) k a = if (gF c e M a).1 = 0 then (0, (gF c e M a).2, k) else gEnd c e M f (k + 1) (gF c e M a).2 := by
  show (if e ≤ a then _ else _) = _
  rw [if_neg h]
/-- the end of a guest's text, told by its parts -/
theorem gF_0 {c : Int → Int} {e : Int} {M : Nat} {a : Int} (h : ¬ (a < e ∧ c a = 59)) : gF c e M a = (0, a) := if_pos h
theorem gF_1 {c : Int → Int} {e : Int} {M : Nat} {a : Int} (h0 : a < e ∧ c a = 59) (h : ¬ ltOk c e (a + 1)) : gF c e M a = (0, a + 1) := by
  unfold gF gB
  rw [if_neg (fun q => q h0), if_pos h]
theorem gF_2 {c : Int → Int} {e : Int} {M : Nat} {a : Int} (h0 : a < e ∧ c a = 59) (h1 : ltOk c e (a + 1)) (h : ¬ dgOk c e (a + 1 + 1) 0 9) : gF c e M a = (0, a + 1 + 1) := by
  unfold gF gB
  rw [if_neg (fun q => q h0), if_neg (fun q => q h1), if_pos h]
theorem gF_3 {c : Int → Int} {e : Int} {M : Nat} {a : Int} (h0 : a < e ∧ c a = 59) (h1 : ltOk c e (a + 1)) (h2 : dgOk c e (a + 1 + 1) 0 9) (hp : c (a + 1) = 112) (h : ¬ dgOk c e (a + 1 + 1 + 1) 0 9) : gF c e M a = (0, a + 1 + 1 + 1) := by
  unfold gF gB
  rw [if_neg (fun q => q h0), if_neg (fun q => q h1), if_neg (fun q => q h2), if_pos ⟨hp, by rw [show a + 1 + 2 = a + 1 + 1 + 1 by omega]; exact h⟩, show a + 1 + 2 = a + 1 + 1 + 1 by omega]
theorem gF_4 {c : Int → Int} {e : Int} {M : Nat} {a : Int} (h0 : a < e ∧ c a = 59) (h1 : ltOk c e (a + 1)) (h2 : dgOk c e (a + 1 + 1) 0 9) (h3 : c (a + 1) = 112 → dgOk c e (a + 1 + 1 + 1) 0 9) : gF c e M a = if fstN (sgB c e M (wOf c (a + 1))) M = M then (1, wOf c (a + 1) + M) else (0, wOf c (a + 1) + fstN (sgB c e M (wOf c (a + 1))) M) := by
  unfold gF gB
  rw [if_neg (fun q => q h0), if_neg (fun q => q h1), if_neg (fun q => q h2), if_neg (fun q => q.2 (by rw [show a + 1 + 2 = a + 1 + 1 + 1 by omega]; exact h3 q.1))]
section TEXT3
variable {l : Launch} {E : qEv} {n : Nat} {sh : qSh} {I L : qI} {R : qR}
theorem ct_X5_isGuestRead {d s M : Nat} {c : Int → Int} {e a g : Int} (hO : qTold E.2.2 n sh R d) (hS : qSheet E.2.2 n sh R s) (hds : d + 14 ≤ s) (h : txI I d s c e a) (hM : I d 6 = (M : Int)) (hM2 : 2 ≤ M ∧ M ≤ 6) (hg : 0 ≤ g ∧ g < 7) :
    Ct l E 2 mX5_isGuestRead [.ref d, .ref s, .int (zI g)] (n, sh, I, L, R) 0 0 (qZ n sh (rdQ L R d s c e ((gF c e M a).1 = 1) 1 0 (gF c e M a).2 (gF c e M a).2 (fun I' => frG I d g I' ∧ gdD c M d a g I') (frZ I d))) := by
  refine Ct.of (lo := [(0, _), (1, _), (2, _)]) ok_X5_isGuestRead (Nat.le_of_ble_eq_true rfl) rfl ?_
  have wth : ∀ (I1 : qI) (kv nv cv w : Int), (a < e ∧ c a = 59) → ltOk c e (a + 1) → dgOk c e (a + 1 + 1) 0 9 → (c (a + 1) = 112 → dgOk c e (a + 1 + 1 + 1) 0 9) → w = wOf c (a + 1) → txI I1 d s c e w → frG I d g I1 → I1 (d + 3) g = kdL c (a + 1) → I1 (d + 4) g = c (a + 2) - 48 → I1 (d + 5) g = (if c (a + 1) = 112 then c (a + 3) - 48 else 0) → Wk l E (qmo E 2 n 0 0 (qZ n sh (rdQ L R d s c e ((gF c e M a).1 = 1) 1 0 (gF c e M a).2 (gF c e M a).2 (fun I' => frG I d g I' ∧ gdD c M d a g I') (frZ I d)))) mX5_isGuestRead 0 0 96
      [(0, .ref d), (1, .ref s), (2, .int (zI g))] [] (n, sh, I1, L, R) := by
    intro I1 kv nv cv w h0 h1 h2 h3 hw f1 f2 f3 f4 f5
    subst hw
    have e4 := gF_4 (M := M) h0 h1 h2 h3
    refine wk_aload_n (i := 0) (q := 97) dX5_isGuestRead_96 rfl rfl rfl ?_
    refine wk_aload_n (i := 1) (q := 98) dX5_isGuestRead_97 rfl rfl rfl ?_
    refine wk_iload_n (i := 2) (q := 99) dX5_isGuestRead_98 rfl rfl rfl ?_
    refine wk_cZ2 (q := 102) dX5_isGuestRead_99 rfl vl_X5_71 ⟨_, _, rfl⟩ hO.ob (ct_X5_isWorthRead (M := M) hO hS hds f1 (by rw [f2 _ _ (by omega) (by omega) (by omega)]; exact hM) hM2 hg) (qRo_m ok_X5_isWorthRead (by decide) (Nat.le_refl _) (Nat.le_refl _)) (Nat.le_of_ble_eq_true rfl) (fun v99 I99 L99 R99 hv99 => ?_)
    rcases hv99 with ⟨rfl, hv99⟩ | ⟨rfl, hv99⟩
    · obtain ⟨rfl, rfl, p99, x99, f99⟩ := hv99
      refine wk_if_eq (t := 109) (q := 105) dX5_isGuestRead_102 rfl rfl (by omega) (fun hq => absurd hq (by decide)) (fun _ => ?_)
      refine wk_iconst (q := 106) dX5_isGuestRead_105 rfl ?_
      refine wk_goto (t := 110) dX5_isGuestRead_106 rfl ?_
      refine wk_zret dX5_isGuestRead_110 rfl (by omega) ⟨Nat.le_refl _, Nat.le_refl _⟩ rfl ?_
      skip
      first
        | (rw [if_pos p99] at e4
           obtain ⟨k1, k2⟩ := f99
           exact ⟨_, _, _, _, rfl, rfl, Or.inl ⟨rfl, rfl, rfl, by rw [e4], by rw [e4]; exact x99, fun b i q1 q2 q3 => (k1 b i q1 q3).trans (f2 b i q1 q2 q3), by rw [k1 _ _ (by omega) (by omega)]; exact f3, by rw [k1 _ _ (by omega) (by omega)]; exact f4, by rw [k1 _ _ (by omega) (by omega)]; exact f5, k2⟩⟩)
        | (rw [if_neg p99] at e4
           exact ⟨_, _, _, _, rfl, rfl, Or.inr ⟨rfl, rfl, rfl, by rw [e4]; show ¬ (0 : Int) = 1; decide, by rw [e4]; exact x99, ⟨fun b i q => by rw [f99 _ _ (by omega) (by omega), f2 _ _ (by omega) (by omega) (by omega)], by rw [f99 _ _ (by omega) (by omega), f2 _ _ (by omega) (by omega) (by omega)]⟩⟩⟩)
    · obtain ⟨rfl, rfl, p99, x99, f99⟩ := hv99
      refine wk_if_eq (t := 109) (q := 105) dX5_isGuestRead_102 rfl rfl (by omega) (fun _ => ?_) (fun hq => absurd hq (by decide))
      refine wk_iconst (q := 110) dX5_isGuestRead_109 rfl ?_
      refine wk_zret dX5_isGuestRead_110 rfl (by omega) ⟨Nat.le_refl _, Nat.le_refl _⟩ rfl ?_
      skip
      first
        | (rw [if_pos p99] at e4
           obtain ⟨k1, k2⟩ := f99
           exact ⟨_, _, _, _, rfl, rfl, Or.inl ⟨rfl, rfl, rfl, by rw [e4], by rw [e4]; exact x99, fun b i q1 q2 q3 => (k1 b i q1 q3).trans (f2 b i q1 q2 q3), by rw [k1 _ _ (by omega) (by omega)]; exact f3, by rw [k1 _ _ (by omega) (by omega)]; exact f4, by rw [k1 _ _ (by omega) (by omega)]; exact f5, k2⟩⟩)
        | (rw [if_neg p99] at e4
           exact ⟨_, _, _, _, rfl, rfl, Or.inr ⟨rfl, rfl, rfl, by rw [e4]; show ¬ (0 : Int) = 1; decide, by rw [e4]; exact x99, ⟨fun b i q => by rw [f99 _ _ (by omega) (by omega), f2 _ _ (by omega) (by omega) (by omega)], by rw [f99 _ _ (by omega) (by omega), f2 _ _ (by omega) (by omega) (by omega)]⟩⟩⟩)
  refine wk_aload_n (i := 0) (q := 1) dX5_isGuestRead_0 rfl rfl rfl ?_
  refine wk_aload_n (i := 1) (q := 2) dX5_isGuestRead_1 rfl rfl rfl ?_
  refine wk_bipush (q := 4) dX5_isGuestRead_2 rfl (by decide +kernel) ?_
  refine wk_cZ2 (q := 7) dX5_isGuestRead_4 rfl vl_X5_45 ⟨_, _, rfl⟩ hO.ob (ct_X5_isSign hO hS hds h (by omega)) (qRo_m ok_X5_isSign (by decide) (Nat.le_refl _) (Nat.le_refl _)) (Nat.le_of_ble_eq_true rfl) (fun v4 I4 L4 R4 hv4 => ?_)
  rcases hv4 with ⟨rfl, hv4⟩ | ⟨rfl, hv4⟩
  · obtain ⟨rfl, rfl, p4, x4, f4⟩ := hv4
    refine wk_if_ne (t := 12) (q := 10) dX5_isGuestRead_7 rfl rfl (by omega) (fun _ => ?_) (fun hq => absurd hq (by decide))
    refine wk_aload_n (i := 0) (q := 13) dX5_isGuestRead_12 rfl rfl rfl ?_
    refine wk_getR (fi := 2) (q := 16) dX5_isGuestRead_13 rfl fl_X5_18 rfl rfl hO.ob hO.r2 ?_
    refine wk_iload_n (i := 2) (q := 17) dX5_isGuestRead_16 rfl rfl rfl ?_
    refine wk_aload_n (i := 0) (q := 18) dX5_isGuestRead_17 rfl rfl rfl ?_
    refine wk_aload_n (i := 1) (q := 19) dX5_isGuestRead_18 rfl rfl rfl ?_
    refine wk_cZ1 (q := 22) dX5_isGuestRead_19 rfl vl_X5_67 ⟨_, _, rfl⟩ hO.ob (ct_X5_kindOfLetter hO hS hds x4) (qRo_m ok_X5_kindOfLetter (by decide) (Nat.le_refl _) (Nat.le_refl _)) (Nat.le_of_ble_eq_true rfl) (fun v19 I19 L19 R19 hv19 => ?_)
    rcases hv19 with ⟨rfl, hv19⟩ | ⟨rfl, hv19⟩
    · obtain ⟨rfl, rfl, p19, x19, f19⟩ := hv19
      have kd2 : 0 ≤ kdL c (a + 1) ∧ kdL c (a + 1) ≤ 2 ∧ (kdL c (a + 1) = 2 → c (a + 1) ≠ 107 ∧ c (a + 1) ≠ 99) ∧ (c (a + 1) = 112 → kdL c (a + 1) = 2) := by
        unfold kdL
        split
        · omega
        · split <;> omega
      have y19 : ∀ (v : Int) (a' : Int), txI I19 d s c e a' → txI (up I19 (d + 3) g v) d s c e a' := fun v a' z => z.fr (fun i => up_na _ _ _ _ (by omega)) (up_na _ _ _ _ (by omega)) (up_na _ _ _ _ (by omega))
      refine wk_iast (q := 23) dX5_isGuestRead_22 rfl hO.s2 (by omega) ?_
      refine wk_aload_n (i := 0) (q := 24) dX5_isGuestRead_23 rfl rfl rfl ?_
      refine wk_getR (fi := 2) (q := 27) dX5_isGuestRead_24 rfl fl_X5_18 rfl rfl hO.ob hO.r2 ?_
      refine wk_iload_n (i := 2) (q := 28) dX5_isGuestRead_27 rfl rfl rfl ?_
      refine wk_iald (q := 29) dX5_isGuestRead_28 rfl hO.s2 (by omega) ?_
      rw [up_eq]
      refine wk_if_ge (t := 34) (q := 32) dX5_isGuestRead_29 rfl rfl (by omega) (fun hc29 => ?_) (fun hc29 => ?_)
      · refine wk_aload_n (i := 0) (q := 35) dX5_isGuestRead_34 rfl rfl rfl ?_
        refine wk_getR (fi := 3) (q := 38) dX5_isGuestRead_35 rfl fl_X5_21 rfl rfl hO.ob hO.r3 ?_
        refine wk_iload_n (i := 2) (q := 39) dX5_isGuestRead_38 rfl rfl rfl ?_
        refine wk_aload_n (i := 0) (q := 40) dX5_isGuestRead_39 rfl rfl rfl ?_
        refine wk_aload_n (i := 1) (q := 41) dX5_isGuestRead_40 rfl rfl rfl ?_
        refine wk_iconst (q := 42) dX5_isGuestRead_41 rfl ?_
        refine wk_bipush (q := 44) dX5_isGuestRead_42 rfl (by decide +kernel) ?_
        refine wk_cZ3 (q := 47) dX5_isGuestRead_44 rfl vl_X5_56 ⟨_, _, rfl⟩ hO.ob (ct_X5_digit hO hS hds (y19 _ _ x19) (by omega) (by omega)) (qRo_m ok_X5_digit (by decide) (Nat.le_refl _) (Nat.le_refl _)) (Nat.le_of_ble_eq_true rfl) (fun v44 I44 L44 R44 hv44 => ?_)
        rcases hv44 with ⟨rfl, hv44⟩ | ⟨rfl, hv44⟩
        · obtain ⟨rfl, rfl, p44, x44, f44⟩ := hv44
          have y44 : ∀ (v : Int) (a' : Int), txI I44 d s c e a' → txI (up I44 (d + 4) g v) d s c e a' := fun v a' z => z.fr (fun i => up_na _ _ _ _ (by omega)) (up_na _ _ _ _ (by omega)) (up_na _ _ _ _ (by omega))
          refine wk_iast (q := 48) dX5_isGuestRead_47 rfl hO.s3 (by omega) ?_
          refine wk_aload_n (i := 0) (q := 49) dX5_isGuestRead_48 rfl rfl rfl ?_
          refine wk_getR (fi := 3) (q := 52) dX5_isGuestRead_49 rfl fl_X5_21 rfl rfl hO.ob hO.r3 ?_
          refine wk_iload_n (i := 2) (q := 53) dX5_isGuestRead_52 rfl rfl rfl ?_
          refine wk_iald (q := 54) dX5_isGuestRead_53 rfl hO.s3 (by omega) ?_
          rw [up_eq]
          refine wk_if_ge (t := 59) (q := 57) dX5_isGuestRead_54 rfl rfl (by omega) (fun hc54 => ?_) (fun hc54 => ?_)
          · refine wk_aload_n (i := 0) (q := 60) dX5_isGuestRead_59 rfl rfl rfl ?_
            refine wk_getR (fi := 4) (q := 63) dX5_isGuestRead_60 rfl fl_X5_24 rfl rfl hO.ob hO.r4 ?_
            refine wk_iload_n (i := 2) (q := 64) dX5_isGuestRead_63 rfl rfl rfl ?_
            refine wk_aload_n (i := 0) (q := 65) dX5_isGuestRead_64 rfl rfl rfl ?_
            refine wk_getR (fi := 2) (q := 68) dX5_isGuestRead_65 rfl fl_X5_18 rfl rfl hO.ob hO.r2 ?_
            refine wk_iload_n (i := 2) (q := 69) dX5_isGuestRead_68 rfl rfl rfl ?_
            refine wk_iald (q := 70) dX5_isGuestRead_69 rfl hO.s2 (by omega) ?_
            refine wk_iconst (q := 71) dX5_isGuestRead_70 rfl ?_
            rw [up_na _ _ _ _ (by omega), f44 _ _ (by omega), up_eq]
            refine wk_icmp_ne (t := 85) (q := 74) dX5_isGuestRead_71 rfl rfl (by omega) (by omega) (fun hc71 => ?_) (fun hc71 => ?_)
            · refine wk_iconst (q := 86) dX5_isGuestRead_85 rfl ?_
              refine wk_iast (q := 87) dX5_isGuestRead_86 rfl hO.s4 (by omega) ?_
              refine wk_aload_n (i := 0) (q := 88) dX5_isGuestRead_87 rfl rfl rfl ?_
              refine wk_getR (fi := 4) (q := 91) dX5_isGuestRead_88 rfl fl_X5_24 rfl rfl hO.ob hO.r4 ?_
              refine wk_iload_n (i := 2) (q := 92) dX5_isGuestRead_91 rfl rfl rfl ?_
              refine wk_iald (q := 93) dX5_isGuestRead_92 rfl hO.s4 (by omega) ?_
              rw [up_eq]
              refine wk_if_lt (t := 109) (q := 96) dX5_isGuestRead_93 rfl rfl (by omega) (fun hc93 => ?_) (fun hc93 => ?_)
              · refine wk_iconst (q := 110) dX5_isGuestRead_109 rfl ?_
                refine wk_zret dX5_isGuestRead_110 rfl (by omega) ⟨Nat.le_refl _, Nat.le_refl _⟩ rfl ?_
                first
                | (exfalso; omega)
                | (have e1 := gF_3 (M := M) p4 p19 p44 (by omega) p79
                   exact ⟨_, _, _, _, rfl, rfl, Or.inr ⟨rfl, rfl, rfl, by rw [e1]; show ¬ (0 : Int) = 1; decide, by rw [e1]; exact x79.fr (fun i => up_na _ _ _ _ (by omega)) (up_na _ _ _ _ (by omega)) (up_na _ _ _ _ (by omega)), ⟨fun b i q => by rw [up_off (by omega), f79 _ _ (by omega), up_off (by omega), f44 _ _ (by omega), up_off (by omega), f19 _ _ (by omega), f4 _ _ (by omega)], by rw [up_off (by omega), f79 _ _ (by omega), up_off (by omega), f44 _ _ (by omega), up_off (by omega), f19 _ _ (by omega), f4 _ _ (by omega)]⟩⟩⟩)
              · first
                | (exfalso; omega)
                | exact wth _ 0 0 0 _ p4 p19 p44 (fun _ => p79) (by unfold wOf; rw [if_pos (by omega)]; omega) (x79.fr (fun i => up_na _ _ _ _ (by omega)) (up_na _ _ _ _ (by omega)) (up_na _ _ _ _ (by omega))) (fun b i q1 q2 q3 => by rw [up_off (by omega), f79 b i q1, up_off (by omega), f44 b i q1, up_off (by omega), f19 b i q1]; exact f4 b i q1) (by rw [up_na _ _ _ _ (by omega), f79 _ _ (by omega), up_na _ _ _ _ (by omega), f44 _ _ (by omega), up_eq]) (by rw [up_na _ _ _ _ (by omega), f79 _ _ (by omega), up_eq, show a + 1 + 1 = a + 2 by omega]) (by rw [up_eq, if_pos (by omega), show a + 1 + 1 + 1 = a + 3 by omega])
                | exact wth _ 0 0 0 _ p4 p19 p44 (fun q => by omega) (by unfold wOf; rw [if_neg (by omega)]; omega) ((y44 _ _ x44).fr (fun i => up_na _ _ _ _ (by omega)) (up_na _ _ _ _ (by omega)) (up_na _ _ _ _ (by omega))) (fun b i q1 q2 q3 => by rw [up_off (by omega), up_off (by omega), f44 b i q1, up_off (by omega), f19 b i q1]; exact f4 b i q1) (by rw [up_na _ _ _ _ (by omega), up_na _ _ _ _ (by omega), f44 _ _ (by omega), up_eq]) (by rw [up_na _ _ _ _ (by omega), up_eq, show a + 1 + 1 = a + 2 by omega]) (by rw [up_eq, if_neg (by omega)])
            · refine wk_aload_n (i := 0) (q := 75) dX5_isGuestRead_74 rfl rfl rfl ?_
              refine wk_aload_n (i := 1) (q := 76) dX5_isGuestRead_75 rfl rfl rfl ?_
              refine wk_iconst (q := 77) dX5_isGuestRead_76 rfl ?_
              refine wk_bipush (q := 79) dX5_isGuestRead_77 rfl (by decide +kernel) ?_
              refine wk_cZ3 (q := 82) dX5_isGuestRead_79 rfl vl_X5_56 ⟨_, _, rfl⟩ hO.ob (ct_X5_digit hO hS hds (y44 _ _ x44) (by omega) (by omega)) (qRo_m ok_X5_digit (by decide) (Nat.le_refl _) (Nat.le_refl _)) (Nat.le_of_ble_eq_true rfl) (fun v79 I79 L79 R79 hv79 => ?_)
              rcases hv79 with ⟨rfl, hv79⟩ | ⟨rfl, hv79⟩
              · obtain ⟨rfl, rfl, p79, x79, f79⟩ := hv79
                refine wk_goto (t := 86) dX5_isGuestRead_82 rfl ?_
                refine wk_iast (q := 87) dX5_isGuestRead_86 rfl hO.s4 (by omega) ?_
                refine wk_aload_n (i := 0) (q := 88) dX5_isGuestRead_87 rfl rfl rfl ?_
                refine wk_getR (fi := 4) (q := 91) dX5_isGuestRead_88 rfl fl_X5_24 rfl rfl hO.ob hO.r4 ?_
                refine wk_iload_n (i := 2) (q := 92) dX5_isGuestRead_91 rfl rfl rfl ?_
                refine wk_iald (q := 93) dX5_isGuestRead_92 rfl hO.s4 (by omega) ?_
                rw [up_eq]
                refine wk_if_lt (t := 109) (q := 96) dX5_isGuestRead_93 rfl rfl (by omega) (fun hc93 => ?_) (fun hc93 => ?_)
                · refine wk_iconst (q := 110) dX5_isGuestRead_109 rfl ?_
                  refine wk_zret dX5_isGuestRead_110 rfl (by omega) ⟨Nat.le_refl _, Nat.le_refl _⟩ rfl ?_
                  first
                  | (exfalso; omega)
                  | (have e1 := gF_3 (M := M) p4 p19 p44 (by omega) p79
                     exact ⟨_, _, _, _, rfl, rfl, Or.inr ⟨rfl, rfl, rfl, by rw [e1]; show ¬ (0 : Int) = 1; decide, by rw [e1]; exact x79.fr (fun i => up_na _ _ _ _ (by omega)) (up_na _ _ _ _ (by omega)) (up_na _ _ _ _ (by omega)), ⟨fun b i q => by rw [up_off (by omega), f79 _ _ (by omega), up_off (by omega), f44 _ _ (by omega), up_off (by omega), f19 _ _ (by omega), f4 _ _ (by omega)], by rw [up_off (by omega), f79 _ _ (by omega), up_off (by omega), f44 _ _ (by omega), up_off (by omega), f19 _ _ (by omega), f4 _ _ (by omega)]⟩⟩⟩)
                · first
                  | (exfalso; omega)
                  | exact wth _ 0 0 0 _ p4 p19 p44 (fun _ => p79) (by unfold wOf; rw [if_pos (by omega)]; omega) (x79.fr (fun i => up_na _ _ _ _ (by omega)) (up_na _ _ _ _ (by omega)) (up_na _ _ _ _ (by omega))) (fun b i q1 q2 q3 => by rw [up_off (by omega), f79 b i q1, up_off (by omega), f44 b i q1, up_off (by omega), f19 b i q1]; exact f4 b i q1) (by rw [up_na _ _ _ _ (by omega), f79 _ _ (by omega), up_na _ _ _ _ (by omega), f44 _ _ (by omega), up_eq]) (by rw [up_na _ _ _ _ (by omega), f79 _ _ (by omega), up_eq, show a + 1 + 1 = a + 2 by omega]) (by rw [up_eq, if_pos (by omega), show a + 1 + 1 + 1 = a + 3 by omega])
                  | exact wth _ 0 0 0 _ p4 p19 p44 (fun q => by omega) (by unfold wOf; rw [if_neg (by omega)]; omega) ((y44 _ _ x44).fr (fun i => up_na _ _ _ _ (by omega)) (up_na _ _ _ _ (by omega)) (up_na _ _ _ _ (by omega))) (fun b i q1 q2 q3 => by rw [up_off (by omega), up_off (by omega), f44 b i q1, up_off (by omega), f19 b i q1]; exact f4 b i q1) (by rw [up_na _ _ _ _ (by omega), up_na _ _ _ _ (by omega), f44 _ _ (by omega), up_eq]) (by rw [up_na _ _ _ _ (by omega), up_eq, show a + 1 + 1 = a + 2 by omega]) (by rw [up_eq, if_neg (by omega)])
              · obtain ⟨rfl, rfl, p79, x79, f79⟩ := hv79
                refine wk_goto (t := 86) dX5_isGuestRead_82 rfl ?_
                refine wk_iast (q := 87) dX5_isGuestRead_86 rfl hO.s4 (by omega) ?_
                refine wk_aload_n (i := 0) (q := 88) dX5_isGuestRead_87 rfl rfl rfl ?_
                refine wk_getR (fi := 4) (q := 91) dX5_isGuestRead_88 rfl fl_X5_24 rfl rfl hO.ob hO.r4 ?_
                refine wk_iload_n (i := 2) (q := 92) dX5_isGuestRead_91 rfl rfl rfl ?_
                refine wk_iald (q := 93) dX5_isGuestRead_92 rfl hO.s4 (by omega) ?_
                rw [up_eq]
                refine wk_if_lt (t := 109) (q := 96) dX5_isGuestRead_93 rfl rfl (by omega) (fun hc93 => ?_) (fun hc93 => ?_)
                · refine wk_iconst (q := 110) dX5_isGuestRead_109 rfl ?_
                  refine wk_zret dX5_isGuestRead_110 rfl (by omega) ⟨Nat.le_refl _, Nat.le_refl _⟩ rfl ?_
                  first
                  | (exfalso; omega)
                  | (have e1 := gF_3 (M := M) p4 p19 p44 (by omega) p79
                     exact ⟨_, _, _, _, rfl, rfl, Or.inr ⟨rfl, rfl, rfl, by rw [e1]; show ¬ (0 : Int) = 1; decide, by rw [e1]; exact x79.fr (fun i => up_na _ _ _ _ (by omega)) (up_na _ _ _ _ (by omega)) (up_na _ _ _ _ (by omega)), ⟨fun b i q => by rw [up_off (by omega), f79 _ _ (by omega), up_off (by omega), f44 _ _ (by omega), up_off (by omega), f19 _ _ (by omega), f4 _ _ (by omega)], by rw [up_off (by omega), f79 _ _ (by omega), up_off (by omega), f44 _ _ (by omega), up_off (by omega), f19 _ _ (by omega), f4 _ _ (by omega)]⟩⟩⟩)
                · first
                  | (exfalso; omega)
                  | exact wth _ 0 0 0 _ p4 p19 p44 (fun _ => p79) (by unfold wOf; rw [if_pos (by omega)]; omega) (x79.fr (fun i => up_na _ _ _ _ (by omega)) (up_na _ _ _ _ (by omega)) (up_na _ _ _ _ (by omega))) (fun b i q1 q2 q3 => by rw [up_off (by omega), f79 b i q1, up_off (by omega), f44 b i q1, up_off (by omega), f19 b i q1]; exact f4 b i q1) (by rw [up_na _ _ _ _ (by omega), f79 _ _ (by omega), up_na _ _ _ _ (by omega), f44 _ _ (by omega), up_eq]) (by rw [up_na _ _ _ _ (by omega), f79 _ _ (by omega), up_eq, show a + 1 + 1 = a + 2 by omega]) (by rw [up_eq, if_pos (by omega), show a + 1 + 1 + 1 = a + 3 by omega])
                  | exact wth _ 0 0 0 _ p4 p19 p44 (fun q => by omega) (by unfold wOf; rw [if_neg (by omega)]; omega) ((y44 _ _ x44).fr (fun i => up_na _ _ _ _ (by omega)) (up_na _ _ _ _ (by omega)) (up_na _ _ _ _ (by omega))) (fun b i q1 q2 q3 => by rw [up_off (by omega), up_off (by omega), f44 b i q1, up_off (by omega), f19 b i q1]; exact f4 b i q1) (by rw [up_na _ _ _ _ (by omega), up_na _ _ _ _ (by omega), f44 _ _ (by omega), up_eq]) (by rw [up_na _ _ _ _ (by omega), up_eq, show a + 1 + 1 = a + 2 by omega]) (by rw [up_eq, if_neg (by omega)])
          · refine wk_iconst (q := 58) dX5_isGuestRead_57 rfl ?_
            refine wk_zret dX5_isGuestRead_58 rfl (by omega) ⟨Nat.le_refl _, Nat.le_refl _⟩ rfl ?_
            first
            | (exfalso; omega)
            | (have e1 := gF_2 (M := M) p4 p19 p44
               exact ⟨_, _, _, _, rfl, rfl, Or.inr ⟨rfl, rfl, rfl, by rw [e1]; show ¬ (0 : Int) = 1; decide, by rw [e1]; exact y44 _ _ x44, ⟨fun b i q => by rw [up_off (by omega), f44 _ _ (by omega), up_off (by omega), f19 _ _ (by omega), f4 _ _ (by omega)], by rw [up_off (by omega), f44 _ _ (by omega), up_off (by omega), f19 _ _ (by omega), f4 _ _ (by omega)]⟩⟩⟩)
        · obtain ⟨rfl, rfl, p44, x44, f44⟩ := hv44
          have y44 : ∀ (v : Int) (a' : Int), txI I44 d s c e a' → txI (up I44 (d + 4) g v) d s c e a' := fun v a' z => z.fr (fun i => up_na _ _ _ _ (by omega)) (up_na _ _ _ _ (by omega)) (up_na _ _ _ _ (by omega))
          refine wk_iast (q := 48) dX5_isGuestRead_47 rfl hO.s3 (by omega) ?_
          refine wk_aload_n (i := 0) (q := 49) dX5_isGuestRead_48 rfl rfl rfl ?_
          refine wk_getR (fi := 3) (q := 52) dX5_isGuestRead_49 rfl fl_X5_21 rfl rfl hO.ob hO.r3 ?_
          refine wk_iload_n (i := 2) (q := 53) dX5_isGuestRead_52 rfl rfl rfl ?_
          refine wk_iald (q := 54) dX5_isGuestRead_53 rfl hO.s3 (by omega) ?_
          rw [up_eq]
          refine wk_if_ge (t := 59) (q := 57) dX5_isGuestRead_54 rfl rfl (by omega) (fun hc54 => ?_) (fun hc54 => ?_)
          · refine wk_aload_n (i := 0) (q := 60) dX5_isGuestRead_59 rfl rfl rfl ?_
            refine wk_getR (fi := 4) (q := 63) dX5_isGuestRead_60 rfl fl_X5_24 rfl rfl hO.ob hO.r4 ?_
            refine wk_iload_n (i := 2) (q := 64) dX5_isGuestRead_63 rfl rfl rfl ?_
            refine wk_aload_n (i := 0) (q := 65) dX5_isGuestRead_64 rfl rfl rfl ?_
            refine wk_getR (fi := 2) (q := 68) dX5_isGuestRead_65 rfl fl_X5_18 rfl rfl hO.ob hO.r2 ?_
            refine wk_iload_n (i := 2) (q := 69) dX5_isGuestRead_68 rfl rfl rfl ?_
            refine wk_iald (q := 70) dX5_isGuestRead_69 rfl hO.s2 (by omega) ?_
            refine wk_iconst (q := 71) dX5_isGuestRead_70 rfl ?_
            rw [up_na _ _ _ _ (by omega), f44 _ _ (by omega), up_eq]
            refine wk_icmp_ne (t := 85) (q := 74) dX5_isGuestRead_71 rfl rfl (by omega) (by omega) (fun hc71 => ?_) (fun hc71 => ?_)
            · refine wk_iconst (q := 86) dX5_isGuestRead_85 rfl ?_
              refine wk_iast (q := 87) dX5_isGuestRead_86 rfl hO.s4 (by omega) ?_
              refine wk_aload_n (i := 0) (q := 88) dX5_isGuestRead_87 rfl rfl rfl ?_
              refine wk_getR (fi := 4) (q := 91) dX5_isGuestRead_88 rfl fl_X5_24 rfl rfl hO.ob hO.r4 ?_
              refine wk_iload_n (i := 2) (q := 92) dX5_isGuestRead_91 rfl rfl rfl ?_
              refine wk_iald (q := 93) dX5_isGuestRead_92 rfl hO.s4 (by omega) ?_
              rw [up_eq]
              refine wk_if_lt (t := 109) (q := 96) dX5_isGuestRead_93 rfl rfl (by omega) (fun hc93 => ?_) (fun hc93 => ?_)
              · refine wk_iconst (q := 110) dX5_isGuestRead_109 rfl ?_
                refine wk_zret dX5_isGuestRead_110 rfl (by omega) ⟨Nat.le_refl _, Nat.le_refl _⟩ rfl ?_
                first
                | (exfalso; omega)
                | (have e1 := gF_3 (M := M) p4 p19 p44 (by omega) p79
                   exact ⟨_, _, _, _, rfl, rfl, Or.inr ⟨rfl, rfl, rfl, by rw [e1]; show ¬ (0 : Int) = 1; decide, by rw [e1]; exact x79.fr (fun i => up_na _ _ _ _ (by omega)) (up_na _ _ _ _ (by omega)) (up_na _ _ _ _ (by omega)), ⟨fun b i q => by rw [up_off (by omega), f79 _ _ (by omega), up_off (by omega), f44 _ _ (by omega), up_off (by omega), f19 _ _ (by omega), f4 _ _ (by omega)], by rw [up_off (by omega), f79 _ _ (by omega), up_off (by omega), f44 _ _ (by omega), up_off (by omega), f19 _ _ (by omega), f4 _ _ (by omega)]⟩⟩⟩)
              · first
                | (exfalso; omega)
                | exact wth _ 0 0 0 _ p4 p19 p44 (fun _ => p79) (by unfold wOf; rw [if_pos (by omega)]; omega) (x79.fr (fun i => up_na _ _ _ _ (by omega)) (up_na _ _ _ _ (by omega)) (up_na _ _ _ _ (by omega))) (fun b i q1 q2 q3 => by rw [up_off (by omega), f79 b i q1, up_off (by omega), f44 b i q1, up_off (by omega), f19 b i q1]; exact f4 b i q1) (by rw [up_na _ _ _ _ (by omega), f79 _ _ (by omega), up_na _ _ _ _ (by omega), f44 _ _ (by omega), up_eq]) (by rw [up_na _ _ _ _ (by omega), f79 _ _ (by omega), up_eq, show a + 1 + 1 = a + 2 by omega]) (by rw [up_eq, if_pos (by omega), show a + 1 + 1 + 1 = a + 3 by omega])
                | exact wth _ 0 0 0 _ p4 p19 p44 (fun q => by omega) (by unfold wOf; rw [if_neg (by omega)]; omega) ((y44 _ _ x44).fr (fun i => up_na _ _ _ _ (by omega)) (up_na _ _ _ _ (by omega)) (up_na _ _ _ _ (by omega))) (fun b i q1 q2 q3 => by rw [up_off (by omega), up_off (by omega), f44 b i q1, up_off (by omega), f19 b i q1]; exact f4 b i q1) (by rw [up_na _ _ _ _ (by omega), up_na _ _ _ _ (by omega), f44 _ _ (by omega), up_eq]) (by rw [up_na _ _ _ _ (by omega), up_eq, show a + 1 + 1 = a + 2 by omega]) (by rw [up_eq, if_neg (by omega)])
            · refine wk_aload_n (i := 0) (q := 75) dX5_isGuestRead_74 rfl rfl rfl ?_
              refine wk_aload_n (i := 1) (q := 76) dX5_isGuestRead_75 rfl rfl rfl ?_
              refine wk_iconst (q := 77) dX5_isGuestRead_76 rfl ?_
              refine wk_bipush (q := 79) dX5_isGuestRead_77 rfl (by decide +kernel) ?_
              refine wk_cZ3 (q := 82) dX5_isGuestRead_79 rfl vl_X5_56 ⟨_, _, rfl⟩ hO.ob (ct_X5_digit hO hS hds (y44 _ _ x44) (by omega) (by omega)) (qRo_m ok_X5_digit (by decide) (Nat.le_refl _) (Nat.le_refl _)) (Nat.le_of_ble_eq_true rfl) (fun v79 I79 L79 R79 hv79 => ?_)
              rcases hv79 with ⟨rfl, hv79⟩ | ⟨rfl, hv79⟩
              · obtain ⟨rfl, rfl, p79, x79, f79⟩ := hv79
                refine wk_goto (t := 86) dX5_isGuestRead_82 rfl ?_
                refine wk_iast (q := 87) dX5_isGuestRead_86 rfl hO.s4 (by omega) ?_
                refine wk_aload_n (i := 0) (q := 88) dX5_isGuestRead_87 rfl rfl rfl ?_
                refine wk_getR (fi := 4) (q := 91) dX5_isGuestRead_88 rfl fl_X5_24 rfl rfl hO.ob hO.r4 ?_
                refine wk_iload_n (i := 2) (q := 92) dX5_isGuestRead_91 rfl rfl rfl ?_
                refine wk_iald (q := 93) dX5_isGuestRead_92 rfl hO.s4 (by omega) ?_
                rw [up_eq]
                refine wk_if_lt (t := 109) (q := 96) dX5_isGuestRead_93 rfl rfl (by omega) (fun hc93 => ?_) (fun hc93 => ?_)
                · refine wk_iconst (q := 110) dX5_isGuestRead_109 rfl ?_
                  refine wk_zret dX5_isGuestRead_110 rfl (by omega) ⟨Nat.le_refl _, Nat.le_refl _⟩ rfl ?_
                  first
                  | (exfalso; omega)
                  | (have e1 := gF_3 (M := M) p4 p19 p44 (by omega) p79
                     exact ⟨_, _, _, _, rfl, rfl, Or.inr ⟨rfl, rfl, rfl, by rw [e1]; show ¬ (0 : Int) = 1; decide, by rw [e1]; exact x79.fr (fun i => up_na _ _ _ _ (by omega)) (up_na _ _ _ _ (by omega)) (up_na _ _ _ _ (by omega)), ⟨fun b i q => by rw [up_off (by omega), f79 _ _ (by omega), up_off (by omega), f44 _ _ (by omega), up_off (by omega), f19 _ _ (by omega), f4 _ _ (by omega)], by rw [up_off (by omega), f79 _ _ (by omega), up_off (by omega), f44 _ _ (by omega), up_off (by omega), f19 _ _ (by omega), f4 _ _ (by omega)]⟩⟩⟩)
                · first
                  | (exfalso; omega)
                  | exact wth _ 0 0 0 _ p4 p19 p44 (fun _ => p79) (by unfold wOf; rw [if_pos (by omega)]; omega) (x79.fr (fun i => up_na _ _ _ _ (by omega)) (up_na _ _ _ _ (by omega)) (up_na _ _ _ _ (by omega))) (fun b i q1 q2 q3 => by rw [up_off (by omega), f79 b i q1, up_off (by omega), f44 b i q1, up_off (by omega), f19 b i q1]; exact f4 b i q1) (by rw [up_na _ _ _ _ (by omega), f79 _ _ (by omega), up_na _ _ _ _ (by omega), f44 _ _ (by omega), up_eq]) (by rw [up_na _ _ _ _ (by omega), f79 _ _ (by omega), up_eq, show a + 1 + 1 = a + 2 by omega]) (by rw [up_eq, if_pos (by omega), show a + 1 + 1 + 1 = a + 3 by omega])
                  | exact wth _ 0 0 0 _ p4 p19 p44 (fun q => by omega) (by unfold wOf; rw [if_neg (by omega)]; omega) ((y44 _ _ x44).fr (fun i => up_na _ _ _ _ (by omega)) (up_na _ _ _ _ (by omega)) (up_na _ _ _ _ (by omega))) (fun b i q1 q2 q3 => by rw [up_off (by omega), up_off (by omega), f44 b i q1, up_off (by omega), f19 b i q1]; exact f4 b i q1) (by rw [up_na _ _ _ _ (by omega), up_na _ _ _ _ (by omega), f44 _ _ (by omega), up_eq]) (by rw [up_na _ _ _ _ (by omega), up_eq, show a + 1 + 1 = a + 2 by omega]) (by rw [up_eq, if_neg (by omega)])
              · obtain ⟨rfl, rfl, p79, x79, f79⟩ := hv79
                refine wk_goto (t := 86) dX5_isGuestRead_82 rfl ?_
                refine wk_iast (q := 87) dX5_isGuestRead_86 rfl hO.s4 (by omega) ?_
                refine wk_aload_n (i := 0) (q := 88) dX5_isGuestRead_87 rfl rfl rfl ?_
                refine wk_getR (fi := 4) (q := 91) dX5_isGuestRead_88 rfl fl_X5_24 rfl rfl hO.ob hO.r4 ?_
                refine wk_iload_n (i := 2) (q := 92) dX5_isGuestRead_91 rfl rfl rfl ?_
                refine wk_iald (q := 93) dX5_isGuestRead_92 rfl hO.s4 (by omega) ?_
                rw [up_eq]
                refine wk_if_lt (t := 109) (q := 96) dX5_isGuestRead_93 rfl rfl (by omega) (fun hc93 => ?_) (fun hc93 => ?_)
                · refine wk_iconst (q := 110) dX5_isGuestRead_109 rfl ?_
                  refine wk_zret dX5_isGuestRead_110 rfl (by omega) ⟨Nat.le_refl _, Nat.le_refl _⟩ rfl ?_
                  first
                  | (exfalso; omega)
                  | (have e1 := gF_3 (M := M) p4 p19 p44 (by omega) p79
                     exact ⟨_, _, _, _, rfl, rfl, Or.inr ⟨rfl, rfl, rfl, by rw [e1]; show ¬ (0 : Int) = 1; decide, by rw [e1]; exact x79.fr (fun i => up_na _ _ _ _ (by omega)) (up_na _ _ _ _ (by omega)) (up_na _ _ _ _ (by omega)), ⟨fun b i q => by rw [up_off (by omega), f79 _ _ (by omega), up_off (by omega), f44 _ _ (by omega), up_off (by omega), f19 _ _ (by omega), f4 _ _ (by omega)], by rw [up_off (by omega), f79 _ _ (by omega), up_off (by omega), f44 _ _ (by omega), up_off (by omega), f19 _ _ (by omega), f4 _ _ (by omega)]⟩⟩⟩)
                · first
                  | (exfalso; omega)
                  | exact wth _ 0 0 0 _ p4 p19 p44 (fun _ => p79) (by unfold wOf; rw [if_pos (by omega)]; omega) (x79.fr (fun i => up_na _ _ _ _ (by omega)) (up_na _ _ _ _ (by omega)) (up_na _ _ _ _ (by omega))) (fun b i q1 q2 q3 => by rw [up_off (by omega), f79 b i q1, up_off (by omega), f44 b i q1, up_off (by omega), f19 b i q1]; exact f4 b i q1) (by rw [up_na _ _ _ _ (by omega), f79 _ _ (by omega), up_na _ _ _ _ (by omega), f44 _ _ (by omega), up_eq]) (by rw [up_na _ _ _ _ (by omega), f79 _ _ (by omega), up_eq, show a + 1 + 1 = a + 2 by omega]) (by rw [up_eq, if_pos (by omega), show a + 1 + 1 + 1 = a + 3 by omega])
                  | exact wth _ 0 0 0 _ p4 p19 p44 (fun q => by omega) (by unfold wOf; rw [if_neg (by omega)]; omega) ((y44 _ _ x44).fr (fun i => up_na _ _ _ _ (by omega)) (up_na _ _ _ _ (by omega)) (up_na _ _ _ _ (by omega))) (fun b i q1 q2 q3 => by rw [up_off (by omega), up_off (by omega), f44 b i q1, up_off (by omega), f19 b i q1]; exact f4 b i q1) (by rw [up_na _ _ _ _ (by omega), up_na _ _ _ _ (by omega), f44 _ _ (by omega), up_eq]) (by rw [up_na _ _ _ _ (by omega), up_eq, show a + 1 + 1 = a + 2 by omega]) (by rw [up_eq, if_neg (by omega)])
          · refine wk_iconst (q := 58) dX5_isGuestRead_57 rfl ?_
            refine wk_zret dX5_isGuestRead_58 rfl (by omega) ⟨Nat.le_refl _, Nat.le_refl _⟩ rfl ?_
            first
            | (exfalso; omega)
            | (have e1 := gF_2 (M := M) p4 p19 p44
               exact ⟨_, _, _, _, rfl, rfl, Or.inr ⟨rfl, rfl, rfl, by rw [e1]; show ¬ (0 : Int) = 1; decide, by rw [e1]; exact y44 _ _ x44, ⟨fun b i q => by rw [up_off (by omega), f44 _ _ (by omega), up_off (by omega), f19 _ _ (by omega), f4 _ _ (by omega)], by rw [up_off (by omega), f44 _ _ (by omega), up_off (by omega), f19 _ _ (by omega), f4 _ _ (by omega)]⟩⟩⟩)
      · refine wk_iconst (q := 33) dX5_isGuestRead_32 rfl ?_
        refine wk_zret dX5_isGuestRead_33 rfl (by omega) ⟨Nat.le_refl _, Nat.le_refl _⟩ rfl ?_
        first
        | (exfalso; omega)
        | (have e1 := gF_1 (M := M) p4 p19
           exact ⟨_, _, _, _, rfl, rfl, Or.inr ⟨rfl, rfl, rfl, by rw [e1]; show ¬ (0 : Int) = 1; decide, by rw [e1]; exact y19 _ _ x19, ⟨fun b i q => by rw [up_off (by omega), f19 _ _ (by omega), f4 _ _ (by omega)], by rw [up_off (by omega), f19 _ _ (by omega), f4 _ _ (by omega)]⟩⟩⟩)
    · obtain ⟨rfl, rfl, p19, x19, f19⟩ := hv19
      have kd2 : 0 ≤ kdL c (a + 1) ∧ kdL c (a + 1) ≤ 2 ∧ (kdL c (a + 1) = 2 → c (a + 1) ≠ 107 ∧ c (a + 1) ≠ 99) ∧ (c (a + 1) = 112 → kdL c (a + 1) = 2) := by
        unfold kdL
        split
        · omega
        · split <;> omega
      have y19 : ∀ (v : Int) (a' : Int), txI I19 d s c e a' → txI (up I19 (d + 3) g v) d s c e a' := fun v a' z => z.fr (fun i => up_na _ _ _ _ (by omega)) (up_na _ _ _ _ (by omega)) (up_na _ _ _ _ (by omega))
      refine wk_iast (q := 23) dX5_isGuestRead_22 rfl hO.s2 (by omega) ?_
      refine wk_aload_n (i := 0) (q := 24) dX5_isGuestRead_23 rfl rfl rfl ?_
      refine wk_getR (fi := 2) (q := 27) dX5_isGuestRead_24 rfl fl_X5_18 rfl rfl hO.ob hO.r2 ?_
      refine wk_iload_n (i := 2) (q := 28) dX5_isGuestRead_27 rfl rfl rfl ?_
      refine wk_iald (q := 29) dX5_isGuestRead_28 rfl hO.s2 (by omega) ?_
      rw [up_eq]
      refine wk_if_ge (t := 34) (q := 32) dX5_isGuestRead_29 rfl rfl (by omega) (fun hc29 => ?_) (fun hc29 => ?_)
      · refine wk_aload_n (i := 0) (q := 35) dX5_isGuestRead_34 rfl rfl rfl ?_
        refine wk_getR (fi := 3) (q := 38) dX5_isGuestRead_35 rfl fl_X5_21 rfl rfl hO.ob hO.r3 ?_
        refine wk_iload_n (i := 2) (q := 39) dX5_isGuestRead_38 rfl rfl rfl ?_
        refine wk_aload_n (i := 0) (q := 40) dX5_isGuestRead_39 rfl rfl rfl ?_
        refine wk_aload_n (i := 1) (q := 41) dX5_isGuestRead_40 rfl rfl rfl ?_
        refine wk_iconst (q := 42) dX5_isGuestRead_41 rfl ?_
        refine wk_bipush (q := 44) dX5_isGuestRead_42 rfl (by decide +kernel) ?_
        refine wk_cZ3 (q := 47) dX5_isGuestRead_44 rfl vl_X5_56 ⟨_, _, rfl⟩ hO.ob (ct_X5_digit hO hS hds (y19 _ _ x19) (by omega) (by omega)) (qRo_m ok_X5_digit (by decide) (Nat.le_refl _) (Nat.le_refl _)) (Nat.le_of_ble_eq_true rfl) (fun v44 I44 L44 R44 hv44 => ?_)
        rcases hv44 with ⟨rfl, hv44⟩ | ⟨rfl, hv44⟩
        · obtain ⟨rfl, rfl, p44, x44, f44⟩ := hv44
          have y44 : ∀ (v : Int) (a' : Int), txI I44 d s c e a' → txI (up I44 (d + 4) g v) d s c e a' := fun v a' z => z.fr (fun i => up_na _ _ _ _ (by omega)) (up_na _ _ _ _ (by omega)) (up_na _ _ _ _ (by omega))
          refine wk_iast (q := 48) dX5_isGuestRead_47 rfl hO.s3 (by omega) ?_
          refine wk_aload_n (i := 0) (q := 49) dX5_isGuestRead_48 rfl rfl rfl ?_
          refine wk_getR (fi := 3) (q := 52) dX5_isGuestRead_49 rfl fl_X5_21 rfl rfl hO.ob hO.r3 ?_
          refine wk_iload_n (i := 2) (q := 53) dX5_isGuestRead_52 rfl rfl rfl ?_
          refine wk_iald (q := 54) dX5_isGuestRead_53 rfl hO.s3 (by omega) ?_
          rw [up_eq]
          refine wk_if_ge (t := 59) (q := 57) dX5_isGuestRead_54 rfl rfl (by omega) (fun hc54 => ?_) (fun hc54 => ?_)
          · refine wk_aload_n (i := 0) (q := 60) dX5_isGuestRead_59 rfl rfl rfl ?_
            refine wk_getR (fi := 4) (q := 63) dX5_isGuestRead_60 rfl fl_X5_24 rfl rfl hO.ob hO.r4 ?_
            refine wk_iload_n (i := 2) (q := 64) dX5_isGuestRead_63 rfl rfl rfl ?_
            refine wk_aload_n (i := 0) (q := 65) dX5_isGuestRead_64 rfl rfl rfl ?_
            refine wk_getR (fi := 2) (q := 68) dX5_isGuestRead_65 rfl fl_X5_18 rfl rfl hO.ob hO.r2 ?_
            refine wk_iload_n (i := 2) (q := 69) dX5_isGuestRead_68 rfl rfl rfl ?_
            refine wk_iald (q := 70) dX5_isGuestRead_69 rfl hO.s2 (by omega) ?_
            refine wk_iconst (q := 71) dX5_isGuestRead_70 rfl ?_
            rw [up_na _ _ _ _ (by omega), f44 _ _ (by omega), up_eq]
            refine wk_icmp_ne (t := 85) (q := 74) dX5_isGuestRead_71 rfl rfl (by omega) (by omega) (fun hc71 => ?_) (fun hc71 => ?_)
            · refine wk_iconst (q := 86) dX5_isGuestRead_85 rfl ?_
              refine wk_iast (q := 87) dX5_isGuestRead_86 rfl hO.s4 (by omega) ?_
              refine wk_aload_n (i := 0) (q := 88) dX5_isGuestRead_87 rfl rfl rfl ?_
              refine wk_getR (fi := 4) (q := 91) dX5_isGuestRead_88 rfl fl_X5_24 rfl rfl hO.ob hO.r4 ?_
              refine wk_iload_n (i := 2) (q := 92) dX5_isGuestRead_91 rfl rfl rfl ?_
              refine wk_iald (q := 93) dX5_isGuestRead_92 rfl hO.s4 (by omega) ?_
              rw [up_eq]
              refine wk_if_lt (t := 109) (q := 96) dX5_isGuestRead_93 rfl rfl (by omega) (fun hc93 => ?_) (fun hc93 => ?_)
              · refine wk_iconst (q := 110) dX5_isGuestRead_109 rfl ?_
                refine wk_zret dX5_isGuestRead_110 rfl (by omega) ⟨Nat.le_refl _, Nat.le_refl _⟩ rfl ?_
                first
                | (exfalso; omega)
                | (have e1 := gF_3 (M := M) p4 p19 p44 (by omega) p79
                   exact ⟨_, _, _, _, rfl, rfl, Or.inr ⟨rfl, rfl, rfl, by rw [e1]; show ¬ (0 : Int) = 1; decide, by rw [e1]; exact x79.fr (fun i => up_na _ _ _ _ (by omega)) (up_na _ _ _ _ (by omega)) (up_na _ _ _ _ (by omega)), ⟨fun b i q => by rw [up_off (by omega), f79 _ _ (by omega), up_off (by omega), f44 _ _ (by omega), up_off (by omega), f19 _ _ (by omega), f4 _ _ (by omega)], by rw [up_off (by omega), f79 _ _ (by omega), up_off (by omega), f44 _ _ (by omega), up_off (by omega), f19 _ _ (by omega), f4 _ _ (by omega)]⟩⟩⟩)
              · first
                | (exfalso; omega)
                | exact wth _ 0 0 0 _ p4 p19 p44 (fun _ => p79) (by unfold wOf; rw [if_pos (by omega)]; omega) (x79.fr (fun i => up_na _ _ _ _ (by omega)) (up_na _ _ _ _ (by omega)) (up_na _ _ _ _ (by omega))) (fun b i q1 q2 q3 => by rw [up_off (by omega), f79 b i q1, up_off (by omega), f44 b i q1, up_off (by omega), f19 b i q1]; exact f4 b i q1) (by rw [up_na _ _ _ _ (by omega), f79 _ _ (by omega), up_na _ _ _ _ (by omega), f44 _ _ (by omega), up_eq]) (by rw [up_na _ _ _ _ (by omega), f79 _ _ (by omega), up_eq, show a + 1 + 1 = a + 2 by omega]) (by rw [up_eq, if_pos (by omega), show a + 1 + 1 + 1 = a + 3 by omega])
                | exact wth _ 0 0 0 _ p4 p19 p44 (fun q => by omega) (by unfold wOf; rw [if_neg (by omega)]; omega) ((y44 _ _ x44).fr (fun i => up_na _ _ _ _ (by omega)) (up_na _ _ _ _ (by omega)) (up_na _ _ _ _ (by omega))) (fun b i q1 q2 q3 => by rw [up_off (by omega), up_off (by omega), f44 b i q1, up_off (by omega), f19 b i q1]; exact f4 b i q1) (by rw [up_na _ _ _ _ (by omega), up_na _ _ _ _ (by omega), f44 _ _ (by omega), up_eq]) (by rw [up_na _ _ _ _ (by omega), up_eq, show a + 1 + 1 = a + 2 by omega]) (by rw [up_eq, if_neg (by omega)])
            · refine wk_aload_n (i := 0) (q := 75) dX5_isGuestRead_74 rfl rfl rfl ?_
              refine wk_aload_n (i := 1) (q := 76) dX5_isGuestRead_75 rfl rfl rfl ?_
              refine wk_iconst (q := 77) dX5_isGuestRead_76 rfl ?_
              refine wk_bipush (q := 79) dX5_isGuestRead_77 rfl (by decide +kernel) ?_
              refine wk_cZ3 (q := 82) dX5_isGuestRead_79 rfl vl_X5_56 ⟨_, _, rfl⟩ hO.ob (ct_X5_digit hO hS hds (y44 _ _ x44) (by omega) (by omega)) (qRo_m ok_X5_digit (by decide) (Nat.le_refl _) (Nat.le_refl _)) (Nat.le_of_ble_eq_true rfl) (fun v79 I79 L79 R79 hv79 => ?_)
              rcases hv79 with ⟨rfl, hv79⟩ | ⟨rfl, hv79⟩
              · obtain ⟨rfl, rfl, p79, x79, f79⟩ := hv79
                refine wk_goto (t := 86) dX5_isGuestRead_82 rfl ?_
                refine wk_iast (q := 87) dX5_isGuestRead_86 rfl hO.s4 (by omega) ?_
                refine wk_aload_n (i := 0) (q := 88) dX5_isGuestRead_87 rfl rfl rfl ?_
                refine wk_getR (fi := 4) (q := 91) dX5_isGuestRead_88 rfl fl_X5_24 rfl rfl hO.ob hO.r4 ?_
                refine wk_iload_n (i := 2) (q := 92) dX5_isGuestRead_91 rfl rfl rfl ?_
                refine wk_iald (q := 93) dX5_isGuestRead_92 rfl hO.s4 (by omega) ?_
                rw [up_eq]
                refine wk_if_lt (t := 109) (q := 96) dX5_isGuestRead_93 rfl rfl (by omega) (fun hc93 => ?_) (fun hc93 => ?_)
                · refine wk_iconst (q := 110) dX5_isGuestRead_109 rfl ?_
                  refine wk_zret dX5_isGuestRead_110 rfl (by omega) ⟨Nat.le_refl _, Nat.le_refl _⟩ rfl ?_
                  first
                  | (exfalso; omega)
                  | (have e1 := gF_3 (M := M) p4 p19 p44 (by omega) p79
                     exact ⟨_, _, _, _, rfl, rfl, Or.inr ⟨rfl, rfl, rfl, by rw [e1]; show ¬ (0 : Int) = 1; decide, by rw [e1]; exact x79.fr (fun i => up_na _ _ _ _ (by omega)) (up_na _ _ _ _ (by omega)) (up_na _ _ _ _ (by omega)), ⟨fun b i q => by rw [up_off (by omega), f79 _ _ (by omega), up_off (by omega), f44 _ _ (by omega), up_off (by omega), f19 _ _ (by omega), f4 _ _ (by omega)], by rw [up_off (by omega), f79 _ _ (by omega), up_off (by omega), f44 _ _ (by omega), up_off (by omega), f19 _ _ (by omega), f4 _ _ (by omega)]⟩⟩⟩)
                · first
                  | (exfalso; omega)
                  | exact wth _ 0 0 0 _ p4 p19 p44 (fun _ => p79) (by unfold wOf; rw [if_pos (by omega)]; omega) (x79.fr (fun i => up_na _ _ _ _ (by omega)) (up_na _ _ _ _ (by omega)) (up_na _ _ _ _ (by omega))) (fun b i q1 q2 q3 => by rw [up_off (by omega), f79 b i q1, up_off (by omega), f44 b i q1, up_off (by omega), f19 b i q1]; exact f4 b i q1) (by rw [up_na _ _ _ _ (by omega), f79 _ _ (by omega), up_na _ _ _ _ (by omega), f44 _ _ (by omega), up_eq]) (by rw [up_na _ _ _ _ (by omega), f79 _ _ (by omega), up_eq, show a + 1 + 1 = a + 2 by omega]) (by rw [up_eq, if_pos (by omega), show a + 1 + 1 + 1 = a + 3 by omega])
                  | exact wth _ 0 0 0 _ p4 p19 p44 (fun q => by omega) (by unfold wOf; rw [if_neg (by omega)]; omega) ((y44 _ _ x44).fr (fun i => up_na _ _ _ _ (by omega)) (up_na _ _ _ _ (by omega)) (up_na _ _ _ _ (by omega))) (fun b i q1 q2 q3 => by rw [up_off (by omega), up_off (by omega), f44 b i q1, up_off (by omega), f19 b i q1]; exact f4 b i q1) (by rw [up_na _ _ _ _ (by omega), up_na _ _ _ _ (by omega), f44 _ _ (by omega), up_eq]) (by rw [up_na _ _ _ _ (by omega), up_eq, show a + 1 + 1 = a + 2 by omega]) (by rw [up_eq, if_neg (by omega)])
              · obtain ⟨rfl, rfl, p79, x79, f79⟩ := hv79
                refine wk_goto (t := 86) dX5_isGuestRead_82 rfl ?_
                refine wk_iast (q := 87) dX5_isGuestRead_86 rfl hO.s4 (by omega) ?_
                refine wk_aload_n (i := 0) (q := 88) dX5_isGuestRead_87 rfl rfl rfl ?_
                refine wk_getR (fi := 4) (q := 91) dX5_isGuestRead_88 rfl fl_X5_24 rfl rfl hO.ob hO.r4 ?_
                refine wk_iload_n (i := 2) (q := 92) dX5_isGuestRead_91 rfl rfl rfl ?_
                refine wk_iald (q := 93) dX5_isGuestRead_92 rfl hO.s4 (by omega) ?_
                rw [up_eq]
                refine wk_if_lt (t := 109) (q := 96) dX5_isGuestRead_93 rfl rfl (by omega) (fun hc93 => ?_) (fun hc93 => ?_)
                · refine wk_iconst (q := 110) dX5_isGuestRead_109 rfl ?_
                  refine wk_zret dX5_isGuestRead_110 rfl (by omega) ⟨Nat.le_refl _, Nat.le_refl _⟩ rfl ?_
                  first
                  | (exfalso; omega)
                  | (have e1 := gF_3 (M := M) p4 p19 p44 (by omega) p79
                     exact ⟨_, _, _, _, rfl, rfl, Or.inr ⟨rfl, rfl, rfl, by rw [e1]; show ¬ (0 : Int) = 1; decide, by rw [e1]; exact x79.fr (fun i => up_na _ _ _ _ (by omega)) (up_na _ _ _ _ (by omega)) (up_na _ _ _ _ (by omega)), ⟨fun b i q => by rw [up_off (by omega), f79 _ _ (by omega), up_off (by omega), f44 _ _ (by omega), up_off (by omega), f19 _ _ (by omega), f4 _ _ (by omega)], by rw [up_off (by omega), f79 _ _ (by omega), up_off (by omega), f44 _ _ (by omega), up_off (by omega), f19 _ _ (by omega), f4 _ _ (by omega)]⟩⟩⟩)
                · first
                  | (exfalso; omega)
                  | exact wth _ 0 0 0 _ p4 p19 p44 (fun _ => p79) (by unfold wOf; rw [if_pos (by omega)]; omega) (x79.fr (fun i => up_na _ _ _ _ (by omega)) (up_na _ _ _ _ (by omega)) (up_na _ _ _ _ (by omega))) (fun b i q1 q2 q3 => by rw [up_off (by omega), f79 b i q1, up_off (by omega), f44 b i q1, up_off (by omega), f19 b i q1]; exact f4 b i q1) (by rw [up_na _ _ _ _ (by omega), f79 _ _ (by omega), up_na _ _ _ _ (by omega), f44 _ _ (by omega), up_eq]) (by rw [up_na _ _ _ _ (by omega), f79 _ _ (by omega), up_eq, show a + 1 + 1 = a + 2 by omega]) (by rw [up_eq, if_pos (by omega), show a + 1 + 1 + 1 = a + 3 by omega])
                  | exact wth _ 0 0 0 _ p4 p19 p44 (fun q => by omega) (by unfold wOf; rw [if_neg (by omega)]; omega) ((y44 _ _ x44).fr (fun i => up_na _ _ _ _ (by omega)) (up_na _ _ _ _ (by omega)) (up_na _ _ _ _ (by omega))) (fun b i q1 q2 q3 => by rw [up_off (by omega), up_off (by omega), f44 b i q1, up_off (by omega), f19 b i q1]; exact f4 b i q1) (by rw [up_na _ _ _ _ (by omega), up_na _ _ _ _ (by omega), f44 _ _ (by omega), up_eq]) (by rw [up_na _ _ _ _ (by omega), up_eq, show a + 1 + 1 = a + 2 by omega]) (by rw [up_eq, if_neg (by omega)])
          · refine wk_iconst (q := 58) dX5_isGuestRead_57 rfl ?_
            refine wk_zret dX5_isGuestRead_58 rfl (by omega) ⟨Nat.le_refl _, Nat.le_refl _⟩ rfl ?_
            first
            | (exfalso; omega)
            | (have e1 := gF_2 (M := M) p4 p19 p44
               exact ⟨_, _, _, _, rfl, rfl, Or.inr ⟨rfl, rfl, rfl, by rw [e1]; show ¬ (0 : Int) = 1; decide, by rw [e1]; exact y44 _ _ x44, ⟨fun b i q => by rw [up_off (by omega), f44 _ _ (by omega), up_off (by omega), f19 _ _ (by omega), f4 _ _ (by omega)], by rw [up_off (by omega), f44 _ _ (by omega), up_off (by omega), f19 _ _ (by omega), f4 _ _ (by omega)]⟩⟩⟩)
        · obtain ⟨rfl, rfl, p44, x44, f44⟩ := hv44
          have y44 : ∀ (v : Int) (a' : Int), txI I44 d s c e a' → txI (up I44 (d + 4) g v) d s c e a' := fun v a' z => z.fr (fun i => up_na _ _ _ _ (by omega)) (up_na _ _ _ _ (by omega)) (up_na _ _ _ _ (by omega))
          refine wk_iast (q := 48) dX5_isGuestRead_47 rfl hO.s3 (by omega) ?_
          refine wk_aload_n (i := 0) (q := 49) dX5_isGuestRead_48 rfl rfl rfl ?_
          refine wk_getR (fi := 3) (q := 52) dX5_isGuestRead_49 rfl fl_X5_21 rfl rfl hO.ob hO.r3 ?_
          refine wk_iload_n (i := 2) (q := 53) dX5_isGuestRead_52 rfl rfl rfl ?_
          refine wk_iald (q := 54) dX5_isGuestRead_53 rfl hO.s3 (by omega) ?_
          rw [up_eq]
          refine wk_if_ge (t := 59) (q := 57) dX5_isGuestRead_54 rfl rfl (by omega) (fun hc54 => ?_) (fun hc54 => ?_)
          · refine wk_aload_n (i := 0) (q := 60) dX5_isGuestRead_59 rfl rfl rfl ?_
            refine wk_getR (fi := 4) (q := 63) dX5_isGuestRead_60 rfl fl_X5_24 rfl rfl hO.ob hO.r4 ?_
            refine wk_iload_n (i := 2) (q := 64) dX5_isGuestRead_63 rfl rfl rfl ?_
            refine wk_aload_n (i := 0) (q := 65) dX5_isGuestRead_64 rfl rfl rfl ?_
            refine wk_getR (fi := 2) (q := 68) dX5_isGuestRead_65 rfl fl_X5_18 rfl rfl hO.ob hO.r2 ?_
            refine wk_iload_n (i := 2) (q := 69) dX5_isGuestRead_68 rfl rfl rfl ?_
            refine wk_iald (q := 70) dX5_isGuestRead_69 rfl hO.s2 (by omega) ?_
            refine wk_iconst (q := 71) dX5_isGuestRead_70 rfl ?_
            rw [up_na _ _ _ _ (by omega), f44 _ _ (by omega), up_eq]
            refine wk_icmp_ne (t := 85) (q := 74) dX5_isGuestRead_71 rfl rfl (by omega) (by omega) (fun hc71 => ?_) (fun hc71 => ?_)
            · refine wk_iconst (q := 86) dX5_isGuestRead_85 rfl ?_
              refine wk_iast (q := 87) dX5_isGuestRead_86 rfl hO.s4 (by omega) ?_
              refine wk_aload_n (i := 0) (q := 88) dX5_isGuestRead_87 rfl rfl rfl ?_
              refine wk_getR (fi := 4) (q := 91) dX5_isGuestRead_88 rfl fl_X5_24 rfl rfl hO.ob hO.r4 ?_
              refine wk_iload_n (i := 2) (q := 92) dX5_isGuestRead_91 rfl rfl rfl ?_
              refine wk_iald (q := 93) dX5_isGuestRead_92 rfl hO.s4 (by omega) ?_
              rw [up_eq]
              refine wk_if_lt (t := 109) (q := 96) dX5_isGuestRead_93 rfl rfl (by omega) (fun hc93 => ?_) (fun hc93 => ?_)
              · refine wk_iconst (q := 110) dX5_isGuestRead_109 rfl ?_
                refine wk_zret dX5_isGuestRead_110 rfl (by omega) ⟨Nat.le_refl _, Nat.le_refl _⟩ rfl ?_
                first
                | (exfalso; omega)
                | (have e1 := gF_3 (M := M) p4 p19 p44 (by omega) p79
                   exact ⟨_, _, _, _, rfl, rfl, Or.inr ⟨rfl, rfl, rfl, by rw [e1]; show ¬ (0 : Int) = 1; decide, by rw [e1]; exact x79.fr (fun i => up_na _ _ _ _ (by omega)) (up_na _ _ _ _ (by omega)) (up_na _ _ _ _ (by omega)), ⟨fun b i q => by rw [up_off (by omega), f79 _ _ (by omega), up_off (by omega), f44 _ _ (by omega), up_off (by omega), f19 _ _ (by omega), f4 _ _ (by omega)], by rw [up_off (by omega), f79 _ _ (by omega), up_off (by omega), f44 _ _ (by omega), up_off (by omega), f19 _ _ (by omega), f4 _ _ (by omega)]⟩⟩⟩)
              · first
                | (exfalso; omega)
                | exact wth _ 0 0 0 _ p4 p19 p44 (fun _ => p79) (by unfold wOf; rw [if_pos (by omega)]; omega) (x79.fr (fun i => up_na _ _ _ _ (by omega)) (up_na _ _ _ _ (by omega)) (up_na _ _ _ _ (by omega))) (fun b i q1 q2 q3 => by rw [up_off (by omega), f79 b i q1, up_off (by omega), f44 b i q1, up_off (by omega), f19 b i q1]; exact f4 b i q1) (by rw [up_na _ _ _ _ (by omega), f79 _ _ (by omega), up_na _ _ _ _ (by omega), f44 _ _ (by omega), up_eq]) (by rw [up_na _ _ _ _ (by omega), f79 _ _ (by omega), up_eq, show a + 1 + 1 = a + 2 by omega]) (by rw [up_eq, if_pos (by omega), show a + 1 + 1 + 1 = a + 3 by omega])
                | exact wth _ 0 0 0 _ p4 p19 p44 (fun q => by omega) (by unfold wOf; rw [if_neg (by omega)]; omega) ((y44 _ _ x44).fr (fun i => up_na _ _ _ _ (by omega)) (up_na _ _ _ _ (by omega)) (up_na _ _ _ _ (by omega))) (fun b i q1 q2 q3 => by rw [up_off (by omega), up_off (by omega), f44 b i q1, up_off (by omega), f19 b i q1]; exact f4 b i q1) (by rw [up_na _ _ _ _ (by omega), up_na _ _ _ _ (by omega), f44 _ _ (by omega), up_eq]) (by rw [up_na _ _ _ _ (by omega), up_eq, show a + 1 + 1 = a + 2 by omega]) (by rw [up_eq, if_neg (by omega)])
            · refine wk_aload_n (i := 0) (q := 75) dX5_isGuestRead_74 rfl rfl rfl ?_
              refine wk_aload_n (i := 1) (q := 76) dX5_isGuestRead_75 rfl rfl rfl ?_
              refine wk_iconst (q := 77) dX5_isGuestRead_76 rfl ?_
              refine wk_bipush (q := 79) dX5_isGuestRead_77 rfl (by decide +kernel) ?_
              refine wk_cZ3 (q := 82) dX5_isGuestRead_79 rfl vl_X5_56 ⟨_, _, rfl⟩ hO.ob (ct_X5_digit hO hS hds (y44 _ _ x44) (by omega) (by omega)) (qRo_m ok_X5_digit (by decide) (Nat.le_refl _) (Nat.le_refl _)) (Nat.le_of_ble_eq_true rfl) (fun v79 I79 L79 R79 hv79 => ?_)
              rcases hv79 with ⟨rfl, hv79⟩ | ⟨rfl, hv79⟩
              · obtain ⟨rfl, rfl, p79, x79, f79⟩ := hv79
                refine wk_goto (t := 86) dX5_isGuestRead_82 rfl ?_
                refine wk_iast (q := 87) dX5_isGuestRead_86 rfl hO.s4 (by omega) ?_
                refine wk_aload_n (i := 0) (q := 88) dX5_isGuestRead_87 rfl rfl rfl ?_
                refine wk_getR (fi := 4) (q := 91) dX5_isGuestRead_88 rfl fl_X5_24 rfl rfl hO.ob hO.r4 ?_
                refine wk_iload_n (i := 2) (q := 92) dX5_isGuestRead_91 rfl rfl rfl ?_
                refine wk_iald (q := 93) dX5_isGuestRead_92 rfl hO.s4 (by omega) ?_
                rw [up_eq]
                refine wk_if_lt (t := 109) (q := 96) dX5_isGuestRead_93 rfl rfl (by omega) (fun hc93 => ?_) (fun hc93 => ?_)
                · refine wk_iconst (q := 110) dX5_isGuestRead_109 rfl ?_
                  refine wk_zret dX5_isGuestRead_110 rfl (by omega) ⟨Nat.le_refl _, Nat.le_refl _⟩ rfl ?_
                  first
                  | (exfalso; omega)
                  | (have e1 := gF_3 (M := M) p4 p19 p44 (by omega) p79
                     exact ⟨_, _, _, _, rfl, rfl, Or.inr ⟨rfl, rfl, rfl, by rw [e1]; show ¬ (0 : Int) = 1; decide, by rw [e1]; exact x79.fr (fun i => up_na _ _ _ _ (by omega)) (up_na _ _ _ _ (by omega)) (up_na _ _ _ _ (by omega)), ⟨fun b i q => by rw [up_off (by omega), f79 _ _ (by omega), up_off (by omega), f44 _ _ (by omega), up_off (by omega), f19 _ _ (by omega), f4 _ _ (by omega)], by rw [up_off (by omega), f79 _ _ (by omega), up_off (by omega), f44 _ _ (by omega), up_off (by omega), f19 _ _ (by omega), f4 _ _ (by omega)]⟩⟩⟩)
                · first
                  | (exfalso; omega)
                  | exact wth _ 0 0 0 _ p4 p19 p44 (fun _ => p79) (by unfold wOf; rw [if_pos (by omega)]; omega) (x79.fr (fun i => up_na _ _ _ _ (by omega)) (up_na _ _ _ _ (by omega)) (up_na _ _ _ _ (by omega))) (fun b i q1 q2 q3 => by rw [up_off (by omega), f79 b i q1, up_off (by omega), f44 b i q1, up_off (by omega), f19 b i q1]; exact f4 b i q1) (by rw [up_na _ _ _ _ (by omega), f79 _ _ (by omega), up_na _ _ _ _ (by omega), f44 _ _ (by omega), up_eq]) (by rw [up_na _ _ _ _ (by omega), f79 _ _ (by omega), up_eq, show a + 1 + 1 = a + 2 by omega]) (by rw [up_eq, if_pos (by omega), show a + 1 + 1 + 1 = a + 3 by omega])
                  | exact wth _ 0 0 0 _ p4 p19 p44 (fun q => by omega) (by unfold wOf; rw [if_neg (by omega)]; omega) ((y44 _ _ x44).fr (fun i => up_na _ _ _ _ (by omega)) (up_na _ _ _ _ (by omega)) (up_na _ _ _ _ (by omega))) (fun b i q1 q2 q3 => by rw [up_off (by omega), up_off (by omega), f44 b i q1, up_off (by omega), f19 b i q1]; exact f4 b i q1) (by rw [up_na _ _ _ _ (by omega), up_na _ _ _ _ (by omega), f44 _ _ (by omega), up_eq]) (by rw [up_na _ _ _ _ (by omega), up_eq, show a + 1 + 1 = a + 2 by omega]) (by rw [up_eq, if_neg (by omega)])
              · obtain ⟨rfl, rfl, p79, x79, f79⟩ := hv79
                refine wk_goto (t := 86) dX5_isGuestRead_82 rfl ?_
                refine wk_iast (q := 87) dX5_isGuestRead_86 rfl hO.s4 (by omega) ?_
                refine wk_aload_n (i := 0) (q := 88) dX5_isGuestRead_87 rfl rfl rfl ?_
                refine wk_getR (fi := 4) (q := 91) dX5_isGuestRead_88 rfl fl_X5_24 rfl rfl hO.ob hO.r4 ?_
                refine wk_iload_n (i := 2) (q := 92) dX5_isGuestRead_91 rfl rfl rfl ?_
                refine wk_iald (q := 93) dX5_isGuestRead_92 rfl hO.s4 (by omega) ?_
                rw [up_eq]
                refine wk_if_lt (t := 109) (q := 96) dX5_isGuestRead_93 rfl rfl (by omega) (fun hc93 => ?_) (fun hc93 => ?_)
                · refine wk_iconst (q := 110) dX5_isGuestRead_109 rfl ?_
                  refine wk_zret dX5_isGuestRead_110 rfl (by omega) ⟨Nat.le_refl _, Nat.le_refl _⟩ rfl ?_
                  first
                  | (exfalso; omega)
                  | (have e1 := gF_3 (M := M) p4 p19 p44 (by omega) p79
                     exact ⟨_, _, _, _, rfl, rfl, Or.inr ⟨rfl, rfl, rfl, by rw [e1]; show ¬ (0 : Int) = 1; decide, by rw [e1]; exact x79.fr (fun i => up_na _ _ _ _ (by omega)) (up_na _ _ _ _ (by omega)) (up_na _ _ _ _ (by omega)), ⟨fun b i q => by rw [up_off (by omega), f79 _ _ (by omega), up_off (by omega), f44 _ _ (by omega), up_off (by omega), f19 _ _ (by omega), f4 _ _ (by omega)], by rw [up_off (by omega), f79 _ _ (by omega), up_off (by omega), f44 _ _ (by omega), up_off (by omega), f19 _ _ (by omega), f4 _ _ (by omega)]⟩⟩⟩)
                · first
                  | (exfalso; omega)
                  | exact wth _ 0 0 0 _ p4 p19 p44 (fun _ => p79) (by unfold wOf; rw [if_pos (by omega)]; omega) (x79.fr (fun i => up_na _ _ _ _ (by omega)) (up_na _ _ _ _ (by omega)) (up_na _ _ _ _ (by omega))) (fun b i q1 q2 q3 => by rw [up_off (by omega), f79 b i q1, up_off (by omega), f44 b i q1, up_off (by omega), f19 b i q1]; exact f4 b i q1) (by rw [up_na _ _ _ _ (by omega), f79 _ _ (by omega), up_na _ _ _ _ (by omega), f44 _ _ (by omega), up_eq]) (by rw [up_na _ _ _ _ (by omega), f79 _ _ (by omega), up_eq, show a + 1 + 1 = a + 2 by omega]) (by rw [up_eq, if_pos (by omega), show a + 1 + 1 + 1 = a + 3 by omega])
                  | exact wth _ 0 0 0 _ p4 p19 p44 (fun q => by omega) (by unfold wOf; rw [if_neg (by omega)]; omega) ((y44 _ _ x44).fr (fun i => up_na _ _ _ _ (by omega)) (up_na _ _ _ _ (by omega)) (up_na _ _ _ _ (by omega))) (fun b i q1 q2 q3 => by rw [up_off (by omega), up_off (by omega), f44 b i q1, up_off (by omega), f19 b i q1]; exact f4 b i q1) (by rw [up_na _ _ _ _ (by omega), up_na _ _ _ _ (by omega), f44 _ _ (by omega), up_eq]) (by rw [up_na _ _ _ _ (by omega), up_eq, show a + 1 + 1 = a + 2 by omega]) (by rw [up_eq, if_neg (by omega)])
          · refine wk_iconst (q := 58) dX5_isGuestRead_57 rfl ?_
            refine wk_zret dX5_isGuestRead_58 rfl (by omega) ⟨Nat.le_refl _, Nat.le_refl _⟩ rfl ?_
            first
            | (exfalso; omega)
            | (have e1 := gF_2 (M := M) p4 p19 p44
               exact ⟨_, _, _, _, rfl, rfl, Or.inr ⟨rfl, rfl, rfl, by rw [e1]; show ¬ (0 : Int) = 1; decide, by rw [e1]; exact y44 _ _ x44, ⟨fun b i q => by rw [up_off (by omega), f44 _ _ (by omega), up_off (by omega), f19 _ _ (by omega), f4 _ _ (by omega)], by rw [up_off (by omega), f44 _ _ (by omega), up_off (by omega), f19 _ _ (by omega), f4 _ _ (by omega)]⟩⟩⟩)
      · refine wk_iconst (q := 33) dX5_isGuestRead_32 rfl ?_
        refine wk_zret dX5_isGuestRead_33 rfl (by omega) ⟨Nat.le_refl _, Nat.le_refl _⟩ rfl ?_
        first
        | (exfalso; omega)
        | (have e1 := gF_1 (M := M) p4 p19
           exact ⟨_, _, _, _, rfl, rfl, Or.inr ⟨rfl, rfl, rfl, by rw [e1]; show ¬ (0 : Int) = 1; decide, by rw [e1]; exact y19 _ _ x19, ⟨fun b i q => by rw [up_off (by omega), f19 _ _ (by omega), f4 _ _ (by omega)], by rw [up_off (by omega), f19 _ _ (by omega), f4 _ _ (by omega)]⟩⟩⟩)
  · obtain ⟨rfl, rfl, p4, x4, f4⟩ := hv4
    refine wk_if_ne (t := 12) (q := 10) dX5_isGuestRead_7 rfl rfl (by omega) (fun hq => absurd hq (by decide)) (fun _ => ?_)
    refine wk_iconst (q := 11) dX5_isGuestRead_10 rfl ?_
    refine wk_zret dX5_isGuestRead_11 rfl (by omega) ⟨Nat.le_refl _, Nat.le_refl _⟩ rfl ?_
    have e0 := gF_0 (M := M) p4
    exact ⟨_, _, _, _, rfl, rfl, Or.inr ⟨rfl, rfl, rfl, by rw [e0]; show ¬ (0 : Int) = 1; decide, by rw [e0]; exact x4, ⟨fun b i q => by rw [f4 _ _ (by omega)], by rw [f4 _ _ (by omega)]⟩⟩⟩
theorem ct_X5_areDishesRead {d s : Nat} {c : Int → Int} {e b0 : Int} (hO : qTold E.2.2 n sh R d) (hS : qSheet E.2.2 n sh R s) (hds : d + 14 ≤ s) (h : txI I d s c e (b0 + 1)) :
    Ct l E 1 mX5_areDishesRead [.ref d, .ref s] (n, sh, I, L, R) 0 0 (qZ n sh (rdQ L R d s c e (dgOk c e (b0 + 1) 2 6 ∧ fstN (dsB c e (b0 + 2)) (2 * mOf c b0) = 2 * mOf c b0) 1 0 (b0 + 2 + 2 * mOf c b0) (if ¬ dgOk c e (b0 + 1) 2 6 then b0 + 1 else b0 + 2 + fstN (dsB c e (b0 + 2)) (2 * mOf c b0)) (fun I' => (∀ b i, ¬ (b = d ∧ (i = 10 ∨ i = 6)) → b ≠ d + 1 → b ≠ d + 2 → I' b i = I b i) ∧ I' d 6 = (mOf c b0 : Int) ∧ ∀ i : Nat, i < mOf c b0 → I' (d + 1) i = c (b0 + 2 + 2 * i) - 48 ∧ I' (d + 2) i = c (b0 + 3 + 2 * i) - 48) (frZ I d))) := by
  have loop : dgOk c e (b0 + 1) 2 6 → ∀ M : Nat, M = mOf c b0 → ∀ j : Nat, j ≤ M → fstN (dsB c e (b0 + 2)) (2 * j) = 2 * j → ∀ I1 : qI, txI I1 d s c e (b0 + 2 + 2 * j) → (∀ b i, ¬ (b = d ∧ (i = 10 ∨ i = 6)) → b ≠ d + 1 → b ≠ d + 2 → I1 b i = I b i) → I1 d 6 = (M : Int) → (∀ i : Nat, i < j → I1 (d + 1) i = c (b0 + 2 + 2 * i) - 48 ∧ I1 (d + 2) i = c (b0 + 3 + 2 * i) - 48) → Wk l E (qmo E 1 n 0 0 (qZ n sh (rdQ L R d s c e (dgOk c e (b0 + 1) 2 6 ∧ fstN (dsB c e (b0 + 2)) (2 * mOf c b0) = 2 * mOf c b0) 1 0 (b0 + 2 + 2 * mOf c b0) (if ¬ dgOk c e (b0 + 1) 2 6 then b0 + 1 else b0 + 2 + fstN (dsB c e (b0 + 2)) (2 * mOf c b0)) (fun I' => (∀ b i, ¬ (b = d ∧ (i = 10 ∨ i = 6)) → b ≠ d + 1 → b ≠ d + 2 → I' b i = I b i) ∧ I' d 6 = (mOf c b0 : Int) ∧ ∀ i : Nat, i < mOf c b0 → I' (d + 1) i = c (b0 + 2 + 2 * i) - 48 ∧ I' (d + 2) i = c (b0 + 3 + 2 * i) - 48) (frZ I d)))) mX5_areDishesRead 0 0 14
      [(0, .ref d), (1, .ref s), (2, .int (zI (j : Int)))] [] (n, sh, I1, L, R) := by
    intro hdg M hM
    have hM2 : (M : Int) = c (b0 + 1) - 48 := by rw [hM]; unfold mOf; omega
    refine up_ind M ?_ ?_
    · intro hf I1 f1 f2 f3 f4
      refine wk_iload_n (i := 2) (q := 15) dX5_areDishesRead_14 rfl rfl rfl ?_
      refine wk_aload_n (i := 0) (q := 16) dX5_areDishesRead_15 rfl rfl rfl ?_
      refine wk_getI (fi := 6) (q := 19) dX5_areDishesRead_16 rfl fl_X5_60 rfl rfl hO.ob ?_
      refine wk_icmp_ge (t := 78) (q := 22) dX5_areDishesRead_19 rfl rfl (by omega) (by omega) (fun hc19 => ?_) (fun hc19 => ?_)
      · refine wk_aload_n (i := 0) (q := 79) dX5_areDishesRead_78 rfl rfl rfl ?_
        refine wk_getI (fi := 6) (q := 82) dX5_areDishesRead_79 rfl fl_X5_60 rfl rfl hO.ob ?_
        refine wk_if_le (t := 89) (q := 85) dX5_areDishesRead_82 rfl rfl (by omega) (fun hc82 => ?_) (fun hc82 => ?_)
        · refine wk_iconst (q := 90) dX5_areDishesRead_89 rfl ?_
          refine wk_zret dX5_areDishesRead_90 rfl (by omega) ⟨Nat.le_refl _, Nat.le_refl _⟩ rfl ?_
          first
          | (exfalso; omega)
          | exact ⟨_, _, _, _, rfl, rfl, Or.inl ⟨rfl, rfl, rfl, ⟨hdg, by rw [← hM]; exact hf⟩, by rw [← hM]; exact f1, f2, by rw [← hM]; exact f3, fun i hi => f4 i (by omega)⟩⟩
        · refine wk_iconst (q := 86) dX5_areDishesRead_85 rfl ?_
          refine wk_goto (t := 90) dX5_areDishesRead_86 rfl ?_
          refine wk_zret dX5_areDishesRead_90 rfl (by omega) ⟨Nat.le_refl _, Nat.le_refl _⟩ rfl ?_
          first
          | (exfalso; omega)
          | exact ⟨_, _, _, _, rfl, rfl, Or.inl ⟨rfl, rfl, rfl, ⟨hdg, by rw [← hM]; exact hf⟩, by rw [← hM]; exact f1, f2, by rw [← hM]; exact f3, fun i hi => f4 i (by omega)⟩⟩
      · omega
    · intro j hj ih hf I1 f1 f2 f3 f4
      have y1 : ∀ {J : qI} (v : Int) (a' : Int), txI J d s c e a' → txI (up J (d + 1) (j : Int) v) d s c e a' := fun v a' z => z.fr (fun i => up_na _ _ _ _ (by omega)) (up_na _ _ _ _ (by omega)) (up_na _ _ _ _ (by omega))
      have y2 : ∀ {J : qI} (v : Int) (a' : Int), txI J d s c e a' → txI (up J (d + 2) (j : Int) v) d s c e a' := fun v a' z => z.fr (fun i => up_na _ _ _ _ (by omega)) (up_na _ _ _ _ (by omega)) (up_na _ _ _ _ (by omega))
      have bad : ∀ (r : Nat) (I2 : qI), 2 * j ≤ r → r < 2 * M → fstN (dsB c e (b0 + 2)) r = r → dsB c e (b0 + 2) r = false → txI I2 d s c e (b0 + 2 + r) → frZ I d I2 → qZ n sh (rdQ L R d s c e (dgOk c e (b0 + 1) 2 6 ∧ fstN (dsB c e (b0 + 2)) (2 * mOf c b0) = 2 * mOf c b0) 1 0 (b0 + 2 + 2 * mOf c b0) (if ¬ dgOk c e (b0 + 1) 2 6 then b0 + 1 else b0 + 2 + fstN (dsB c e (b0 + 2)) (2 * mOf c b0)) (fun I' => (∀ b i, ¬ (b = d ∧ (i = 10 ∨ i = 6)) → b ≠ d + 1 → b ≠ d + 2 → I' b i = I b i) ∧ I' d 6 = (mOf c b0 : Int) ∧ ∀ i : Nat, i < mOf c b0 → I' (d + 1) i = c (b0 + 2 + 2 * i) - 48 ∧ I' (d + 2) i = c (b0 + 3 + 2 * i) - 48) (frZ I d)) (some (.int (zI 0))) (n, sh, I2, L, R) := by
        intro r I2 r0 r1 h1 h2 h3 h4
        have st := fstN_stop' h1 h2 r1
        refine ⟨_, _, _, _, rfl, rfl, Or.inr ⟨rfl, rfl, rfl, fun q => ?_, ?_, h4⟩⟩
        · rw [← hM, st] at q
          omega
        · rw [if_neg (fun q => q hdg), ← hM, st]
          exact h3
      refine wk_iload_n (i := 2) (q := 15) dX5_areDishesRead_14 rfl rfl rfl ?_
      refine wk_aload_n (i := 0) (q := 16) dX5_areDishesRead_15 rfl rfl rfl ?_
      refine wk_getI (fi := 6) (q := 19) dX5_areDishesRead_16 rfl fl_X5_60 rfl rfl hO.ob ?_
      refine wk_icmp_ge (t := 78) (q := 22) dX5_areDishesRead_19 rfl rfl (by omega) (by omega) (fun hc19 => ?_) (fun hc19 => ?_)
      · omega
      · refine wk_aload_n (i := 0) (q := 23) dX5_areDishesRead_22 rfl rfl rfl ?_
        refine wk_getR (fi := 0) (q := 26) dX5_areDishesRead_23 rfl fl_X5_9 rfl rfl hO.ob hO.r0 ?_
        refine wk_iload_n (i := 2) (q := 27) dX5_areDishesRead_26 rfl rfl rfl ?_
        refine wk_aload_n (i := 0) (q := 28) dX5_areDishesRead_27 rfl rfl rfl ?_
        refine wk_aload_n (i := 1) (q := 29) dX5_areDishesRead_28 rfl rfl rfl ?_
        refine wk_iconst (q := 30) dX5_areDishesRead_29 rfl ?_
        refine wk_bipush (q := 32) dX5_areDishesRead_30 rfl (by decide +kernel) ?_
        refine wk_cZ3 (q := 35) dX5_areDishesRead_32 rfl vl_X5_56 ⟨_, _, rfl⟩ hO.ob (ct_X5_digit hO hS hds f1 (by omega) (by omega)) (qRo_m ok_X5_digit (by decide) (Nat.le_refl _) (Nat.le_refl _)) (Nat.le_of_ble_eq_true rfl) (fun v32 I32 L32 R32 hv32 => ?_)
        rcases hv32 with ⟨rfl, hv32⟩ | ⟨rfl, hv32⟩
        · obtain ⟨rfl, rfl, p32, x32, f32⟩ := hv32
          refine wk_iast (q := 36) dX5_areDishesRead_35 rfl hO.s0 (by omega) ?_
          refine wk_aload_n (i := 0) (q := 37) dX5_areDishesRead_36 rfl rfl rfl ?_
          refine wk_getR (fi := 0) (q := 40) dX5_areDishesRead_37 rfl fl_X5_9 rfl rfl hO.ob hO.r0 ?_
          refine wk_iload_n (i := 2) (q := 41) dX5_areDishesRead_40 rfl rfl rfl ?_
          refine wk_iald (q := 42) dX5_areDishesRead_41 rfl hO.s0 (by omega) ?_
          rw [up_eq]
          refine wk_if_ge (t := 47) (q := 45) dX5_areDishesRead_42 rfl rfl (by omega) (fun hc42 => ?_) (fun hc42 => ?_)
          · refine wk_aload_n (i := 0) (q := 48) dX5_areDishesRead_47 rfl rfl rfl ?_
            refine wk_getR (fi := 1) (q := 51) dX5_areDishesRead_48 rfl fl_X5_15 rfl rfl hO.ob hO.r1 ?_
            refine wk_iload_n (i := 2) (q := 52) dX5_areDishesRead_51 rfl rfl rfl ?_
            refine wk_aload_n (i := 0) (q := 53) dX5_areDishesRead_52 rfl rfl rfl ?_
            refine wk_aload_n (i := 1) (q := 54) dX5_areDishesRead_53 rfl rfl rfl ?_
            refine wk_iconst (q := 55) dX5_areDishesRead_54 rfl ?_
            refine wk_bipush (q := 57) dX5_areDishesRead_55 rfl (by decide +kernel) ?_
            refine wk_cZ3 (q := 60) dX5_areDishesRead_57 rfl vl_X5_56 ⟨_, _, rfl⟩ hO.ob (ct_X5_digit hO hS hds (y1 _ _ x32) (by omega) (by omega)) (qRo_m ok_X5_digit (by decide) (Nat.le_refl _) (Nat.le_refl _)) (Nat.le_of_ble_eq_true rfl) (fun v57 I57 L57 R57 hv57 => ?_)
            rcases hv57 with ⟨rfl, hv57⟩ | ⟨rfl, hv57⟩
            · obtain ⟨rfl, rfl, p57, x57, f57⟩ := hv57
              refine wk_iast (q := 61) dX5_areDishesRead_60 rfl hO.s1 (by omega) ?_
              refine wk_aload_n (i := 0) (q := 62) dX5_areDishesRead_61 rfl rfl rfl ?_
              refine wk_getR (fi := 1) (q := 65) dX5_areDishesRead_62 rfl fl_X5_15 rfl rfl hO.ob hO.r1 ?_
              refine wk_iload_n (i := 2) (q := 66) dX5_areDishesRead_65 rfl rfl rfl ?_
              refine wk_iald (q := 67) dX5_areDishesRead_66 rfl hO.s1 (by omega) ?_
              rw [up_eq]
              refine wk_if_ge (t := 72) (q := 70) dX5_areDishesRead_67 rfl rfl (by omega) (fun hc67 => ?_) (fun hc67 => ?_)
              · refine wk_iinc (lo' := [(0, _), (1, _), (2, _)]) (q := 75) dX5_areDishesRead_72 rfl rfl (by decide) rfl ?_
                refine wk_goto (t := 14) dX5_areDishesRead_75 rfl ?_
                first
                | (exfalso; omega)
                | (refine ih (by rw [show 2 * (j + 1) = 2 * j + 1 + 1 by omega]; exact fstN_go (fstN_go hf (dsB_e.mpr p32)) (dsB_o.mpr p57)) _ (by rw [show b0 + 2 + 2 * ((j + 1 : Nat) : Int) = b0 + 2 + 2 * (j : Int) + 1 + 1 by omega]; exact y2 _ _ x57) (fun b i q1 q2 q3 => by rw [up_na _ _ _ _ q3, f57 b i (by omega), up_na _ _ _ _ q2, f32 b i (by omega)]; exact f2 b i q1 q2 q3) (by rw [up_na _ _ _ _ (by omega), f57 _ _ (by omega), up_na _ _ _ _ (by omega), f32 _ _ (by omega)]; exact f3) (fun i hi => ?_)
                   by_cases q : i = j
                   · subst q
                     rw [up_na _ _ _ _ (by omega), f57 _ _ (by omega), up_eq, up_eq, show b0 + 2 + 2 * (i : Int) + 1 = b0 + 3 + 2 * (i : Int) by omega]
                     exact ⟨rfl, rfl⟩
                   · rw [up_na _ _ _ _ (by omega), f57 _ _ (by omega), up_ni _ _ (by omega), f32 _ _ (by omega), up_ni _ _ (by omega), f57 _ _ (by omega), up_na _ _ _ _ (by omega), f32 _ _ (by omega)]
                     exact f4 i (by omega))
              · refine wk_iconst (q := 71) dX5_areDishesRead_70 rfl ?_
                refine wk_zret dX5_areDishesRead_71 rfl (by omega) ⟨Nat.le_refl _, Nat.le_refl _⟩ rfl ?_
                first
                | (exfalso; omega)
                | exact bad (2 * j + 1) _ (by omega) (by omega) (fstN_go hf (dsB_e.mpr p32)) (by cases z : dsB c e (b0 + 2) (2 * j + 1) with
                  | false => rfl
                  | true => exact absurd (dsB_o.mp z) p57) (by rw [show b0 + 2 + ((2 * j + 1 : Nat) : Int) = b0 + 2 + 2 * (j : Int) + 1 by omega]; exact y2 _ _ x57) ⟨fun b i q => by rw [up_off (by omega), f57 _ _ (by omega), up_off (by omega), f32 _ _ (by omega), f2 _ _ (by omega) (by omega) (by omega)], by rw [up_off (by omega), f57 _ _ (by omega), up_off (by omega), f32 _ _ (by omega), f2 _ _ (by omega) (by omega) (by omega)]⟩
            · obtain ⟨rfl, rfl, p57, x57, f57⟩ := hv57
              refine wk_iast (q := 61) dX5_areDishesRead_60 rfl hO.s1 (by omega) ?_
              refine wk_aload_n (i := 0) (q := 62) dX5_areDishesRead_61 rfl rfl rfl ?_
              refine wk_getR (fi := 1) (q := 65) dX5_areDishesRead_62 rfl fl_X5_15 rfl rfl hO.ob hO.r1 ?_
              refine wk_iload_n (i := 2) (q := 66) dX5_areDishesRead_65 rfl rfl rfl ?_
              refine wk_iald (q := 67) dX5_areDishesRead_66 rfl hO.s1 (by omega) ?_
              rw [up_eq]
              refine wk_if_ge (t := 72) (q := 70) dX5_areDishesRead_67 rfl rfl (by omega) (fun hc67 => ?_) (fun hc67 => ?_)
              · refine wk_iinc (lo' := [(0, _), (1, _), (2, _)]) (q := 75) dX5_areDishesRead_72 rfl rfl (by decide) rfl ?_
                refine wk_goto (t := 14) dX5_areDishesRead_75 rfl ?_
                first
                | (exfalso; omega)
                | (refine ih (by rw [show 2 * (j + 1) = 2 * j + 1 + 1 by omega]; exact fstN_go (fstN_go hf (dsB_e.mpr p32)) (dsB_o.mpr p57)) _ (by rw [show b0 + 2 + 2 * ((j + 1 : Nat) : Int) = b0 + 2 + 2 * (j : Int) + 1 + 1 by omega]; exact y2 _ _ x57) (fun b i q1 q2 q3 => by rw [up_na _ _ _ _ q3, f57 b i (by omega), up_na _ _ _ _ q2, f32 b i (by omega)]; exact f2 b i q1 q2 q3) (by rw [up_na _ _ _ _ (by omega), f57 _ _ (by omega), up_na _ _ _ _ (by omega), f32 _ _ (by omega)]; exact f3) (fun i hi => ?_)
                   by_cases q : i = j
                   · subst q
                     rw [up_na _ _ _ _ (by omega), f57 _ _ (by omega), up_eq, up_eq, show b0 + 2 + 2 * (i : Int) + 1 = b0 + 3 + 2 * (i : Int) by omega]
                     exact ⟨rfl, rfl⟩
                   · rw [up_na _ _ _ _ (by omega), f57 _ _ (by omega), up_ni _ _ (by omega), f32 _ _ (by omega), up_ni _ _ (by omega), f57 _ _ (by omega), up_na _ _ _ _ (by omega), f32 _ _ (by omega)]
                     exact f4 i (by omega))
              · refine wk_iconst (q := 71) dX5_areDishesRead_70 rfl ?_
                refine wk_zret dX5_areDishesRead_71 rfl (by omega) ⟨Nat.le_refl _, Nat.le_refl _⟩ rfl ?_
                first
                | (exfalso; omega)
                | exact bad (2 * j + 1) _ (by omega) (by omega) (fstN_go hf (dsB_e.mpr p32)) (by cases z : dsB c e (b0 + 2) (2 * j + 1) with
                  | false => rfl
                  | true => exact absurd (dsB_o.mp z) p57) (by rw [show b0 + 2 + ((2 * j + 1 : Nat) : Int) = b0 + 2 + 2 * (j : Int) + 1 by omega]; exact y2 _ _ x57) ⟨fun b i q => by rw [up_off (by omega), f57 _ _ (by omega), up_off (by omega), f32 _ _ (by omega), f2 _ _ (by omega) (by omega) (by omega)], by rw [up_off (by omega), f57 _ _ (by omega), up_off (by omega), f32 _ _ (by omega), f2 _ _ (by omega) (by omega) (by omega)]⟩
          · refine wk_iconst (q := 46) dX5_areDishesRead_45 rfl ?_
            refine wk_zret dX5_areDishesRead_46 rfl (by omega) ⟨Nat.le_refl _, Nat.le_refl _⟩ rfl ?_
            first
            | (exfalso; omega)
            | exact bad (2 * j) _ (Nat.le_refl _) (by omega) hf (by cases z : dsB c e (b0 + 2) (2 * j) with
              | false => rfl
              | true => exact absurd (dsB_e.mp z) p32) (by rw [show b0 + 2 + ((2 * j : Nat) : Int) = b0 + 2 + 2 * (j : Int) by omega]; exact y1 _ _ x32) ⟨fun b i q => by rw [up_off (by omega), f32 _ _ (by omega), f2 _ _ (by omega) (by omega) (by omega)], by rw [up_off (by omega), f32 _ _ (by omega), f2 _ _ (by omega) (by omega) (by omega)]⟩
        · obtain ⟨rfl, rfl, p32, x32, f32⟩ := hv32
          refine wk_iast (q := 36) dX5_areDishesRead_35 rfl hO.s0 (by omega) ?_
          refine wk_aload_n (i := 0) (q := 37) dX5_areDishesRead_36 rfl rfl rfl ?_
          refine wk_getR (fi := 0) (q := 40) dX5_areDishesRead_37 rfl fl_X5_9 rfl rfl hO.ob hO.r0 ?_
          refine wk_iload_n (i := 2) (q := 41) dX5_areDishesRead_40 rfl rfl rfl ?_
          refine wk_iald (q := 42) dX5_areDishesRead_41 rfl hO.s0 (by omega) ?_
          rw [up_eq]
          refine wk_if_ge (t := 47) (q := 45) dX5_areDishesRead_42 rfl rfl (by omega) (fun hc42 => ?_) (fun hc42 => ?_)
          · refine wk_aload_n (i := 0) (q := 48) dX5_areDishesRead_47 rfl rfl rfl ?_
            refine wk_getR (fi := 1) (q := 51) dX5_areDishesRead_48 rfl fl_X5_15 rfl rfl hO.ob hO.r1 ?_
            refine wk_iload_n (i := 2) (q := 52) dX5_areDishesRead_51 rfl rfl rfl ?_
            refine wk_aload_n (i := 0) (q := 53) dX5_areDishesRead_52 rfl rfl rfl ?_
            refine wk_aload_n (i := 1) (q := 54) dX5_areDishesRead_53 rfl rfl rfl ?_
            refine wk_iconst (q := 55) dX5_areDishesRead_54 rfl ?_
            refine wk_bipush (q := 57) dX5_areDishesRead_55 rfl (by decide +kernel) ?_
            refine wk_cZ3 (q := 60) dX5_areDishesRead_57 rfl vl_X5_56 ⟨_, _, rfl⟩ hO.ob (ct_X5_digit hO hS hds (y1 _ _ x32) (by omega) (by omega)) (qRo_m ok_X5_digit (by decide) (Nat.le_refl _) (Nat.le_refl _)) (Nat.le_of_ble_eq_true rfl) (fun v57 I57 L57 R57 hv57 => ?_)
            rcases hv57 with ⟨rfl, hv57⟩ | ⟨rfl, hv57⟩
            · obtain ⟨rfl, rfl, p57, x57, f57⟩ := hv57
              refine wk_iast (q := 61) dX5_areDishesRead_60 rfl hO.s1 (by omega) ?_
              refine wk_aload_n (i := 0) (q := 62) dX5_areDishesRead_61 rfl rfl rfl ?_
              refine wk_getR (fi := 1) (q := 65) dX5_areDishesRead_62 rfl fl_X5_15 rfl rfl hO.ob hO.r1 ?_
              refine wk_iload_n (i := 2) (q := 66) dX5_areDishesRead_65 rfl rfl rfl ?_
              refine wk_iald (q := 67) dX5_areDishesRead_66 rfl hO.s1 (by omega) ?_
              rw [up_eq]
              refine wk_if_ge (t := 72) (q := 70) dX5_areDishesRead_67 rfl rfl (by omega) (fun hc67 => ?_) (fun hc67 => ?_)
              · refine wk_iinc (lo' := [(0, _), (1, _), (2, _)]) (q := 75) dX5_areDishesRead_72 rfl rfl (by decide) rfl ?_
                refine wk_goto (t := 14) dX5_areDishesRead_75 rfl ?_
                first
                | (exfalso; omega)
                | (refine ih (by rw [show 2 * (j + 1) = 2 * j + 1 + 1 by omega]; exact fstN_go (fstN_go hf (dsB_e.mpr p32)) (dsB_o.mpr p57)) _ (by rw [show b0 + 2 + 2 * ((j + 1 : Nat) : Int) = b0 + 2 + 2 * (j : Int) + 1 + 1 by omega]; exact y2 _ _ x57) (fun b i q1 q2 q3 => by rw [up_na _ _ _ _ q3, f57 b i (by omega), up_na _ _ _ _ q2, f32 b i (by omega)]; exact f2 b i q1 q2 q3) (by rw [up_na _ _ _ _ (by omega), f57 _ _ (by omega), up_na _ _ _ _ (by omega), f32 _ _ (by omega)]; exact f3) (fun i hi => ?_)
                   by_cases q : i = j
                   · subst q
                     rw [up_na _ _ _ _ (by omega), f57 _ _ (by omega), up_eq, up_eq, show b0 + 2 + 2 * (i : Int) + 1 = b0 + 3 + 2 * (i : Int) by omega]
                     exact ⟨rfl, rfl⟩
                   · rw [up_na _ _ _ _ (by omega), f57 _ _ (by omega), up_ni _ _ (by omega), f32 _ _ (by omega), up_ni _ _ (by omega), f57 _ _ (by omega), up_na _ _ _ _ (by omega), f32 _ _ (by omega)]
                     exact f4 i (by omega))
              · refine wk_iconst (q := 71) dX5_areDishesRead_70 rfl ?_
                refine wk_zret dX5_areDishesRead_71 rfl (by omega) ⟨Nat.le_refl _, Nat.le_refl _⟩ rfl ?_
                first
                | (exfalso; omega)
                | exact bad (2 * j + 1) _ (by omega) (by omega) (fstN_go hf (dsB_e.mpr p32)) (by cases z : dsB c e (b0 + 2) (2 * j + 1) with
                  | false => rfl
                  | true => exact absurd (dsB_o.mp z) p57) (by rw [show b0 + 2 + ((2 * j + 1 : Nat) : Int) = b0 + 2 + 2 * (j : Int) + 1 by omega]; exact y2 _ _ x57) ⟨fun b i q => by rw [up_off (by omega), f57 _ _ (by omega), up_off (by omega), f32 _ _ (by omega), f2 _ _ (by omega) (by omega) (by omega)], by rw [up_off (by omega), f57 _ _ (by omega), up_off (by omega), f32 _ _ (by omega), f2 _ _ (by omega) (by omega) (by omega)]⟩
            · obtain ⟨rfl, rfl, p57, x57, f57⟩ := hv57
              refine wk_iast (q := 61) dX5_areDishesRead_60 rfl hO.s1 (by omega) ?_
              refine wk_aload_n (i := 0) (q := 62) dX5_areDishesRead_61 rfl rfl rfl ?_
              refine wk_getR (fi := 1) (q := 65) dX5_areDishesRead_62 rfl fl_X5_15 rfl rfl hO.ob hO.r1 ?_
              refine wk_iload_n (i := 2) (q := 66) dX5_areDishesRead_65 rfl rfl rfl ?_
              refine wk_iald (q := 67) dX5_areDishesRead_66 rfl hO.s1 (by omega) ?_
              rw [up_eq]
              refine wk_if_ge (t := 72) (q := 70) dX5_areDishesRead_67 rfl rfl (by omega) (fun hc67 => ?_) (fun hc67 => ?_)
              · refine wk_iinc (lo' := [(0, _), (1, _), (2, _)]) (q := 75) dX5_areDishesRead_72 rfl rfl (by decide) rfl ?_
                refine wk_goto (t := 14) dX5_areDishesRead_75 rfl ?_
                first
                | (exfalso; omega)
                | (refine ih (by rw [show 2 * (j + 1) = 2 * j + 1 + 1 by omega]; exact fstN_go (fstN_go hf (dsB_e.mpr p32)) (dsB_o.mpr p57)) _ (by rw [show b0 + 2 + 2 * ((j + 1 : Nat) : Int) = b0 + 2 + 2 * (j : Int) + 1 + 1 by omega]; exact y2 _ _ x57) (fun b i q1 q2 q3 => by rw [up_na _ _ _ _ q3, f57 b i (by omega), up_na _ _ _ _ q2, f32 b i (by omega)]; exact f2 b i q1 q2 q3) (by rw [up_na _ _ _ _ (by omega), f57 _ _ (by omega), up_na _ _ _ _ (by omega), f32 _ _ (by omega)]; exact f3) (fun i hi => ?_)
                   by_cases q : i = j
                   · subst q
                     rw [up_na _ _ _ _ (by omega), f57 _ _ (by omega), up_eq, up_eq, show b0 + 2 + 2 * (i : Int) + 1 = b0 + 3 + 2 * (i : Int) by omega]
                     exact ⟨rfl, rfl⟩
                   · rw [up_na _ _ _ _ (by omega), f57 _ _ (by omega), up_ni _ _ (by omega), f32 _ _ (by omega), up_ni _ _ (by omega), f57 _ _ (by omega), up_na _ _ _ _ (by omega), f32 _ _ (by omega)]
                     exact f4 i (by omega))
              · refine wk_iconst (q := 71) dX5_areDishesRead_70 rfl ?_
                refine wk_zret dX5_areDishesRead_71 rfl (by omega) ⟨Nat.le_refl _, Nat.le_refl _⟩ rfl ?_
                first
                | (exfalso; omega)
                | exact bad (2 * j + 1) _ (by omega) (by omega) (fstN_go hf (dsB_e.mpr p32)) (by cases z : dsB c e (b0 + 2) (2 * j + 1) with
                  | false => rfl
                  | true => exact absurd (dsB_o.mp z) p57) (by rw [show b0 + 2 + ((2 * j + 1 : Nat) : Int) = b0 + 2 + 2 * (j : Int) + 1 by omega]; exact y2 _ _ x57) ⟨fun b i q => by rw [up_off (by omega), f57 _ _ (by omega), up_off (by omega), f32 _ _ (by omega), f2 _ _ (by omega) (by omega) (by omega)], by rw [up_off (by omega), f57 _ _ (by omega), up_off (by omega), f32 _ _ (by omega), f2 _ _ (by omega) (by omega) (by omega)]⟩
          · refine wk_iconst (q := 46) dX5_areDishesRead_45 rfl ?_
            refine wk_zret dX5_areDishesRead_46 rfl (by omega) ⟨Nat.le_refl _, Nat.le_refl _⟩ rfl ?_
            first
            | (exfalso; omega)
            | exact bad (2 * j) _ (Nat.le_refl _) (by omega) hf (by cases z : dsB c e (b0 + 2) (2 * j) with
              | false => rfl
              | true => exact absurd (dsB_e.mp z) p32) (by rw [show b0 + 2 + ((2 * j : Nat) : Int) = b0 + 2 + 2 * (j : Int) by omega]; exact y1 _ _ x32) ⟨fun b i q => by rw [up_off (by omega), f32 _ _ (by omega), f2 _ _ (by omega) (by omega) (by omega)], by rw [up_off (by omega), f32 _ _ (by omega), f2 _ _ (by omega) (by omega) (by omega)]⟩
  have neg : ∀ I1 : qI, I1 d 6 = -1 → txI I1 d s c e (b0 + 1) → ¬ dgOk c e (b0 + 1) 2 6 → frZ I d I1 → Wk l E (qmo E 1 n 0 0 (qZ n sh (rdQ L R d s c e (dgOk c e (b0 + 1) 2 6 ∧ fstN (dsB c e (b0 + 2)) (2 * mOf c b0) = 2 * mOf c b0) 1 0 (b0 + 2 + 2 * mOf c b0) (if ¬ dgOk c e (b0 + 1) 2 6 then b0 + 1 else b0 + 2 + fstN (dsB c e (b0 + 2)) (2 * mOf c b0)) (fun I' => (∀ b i, ¬ (b = d ∧ (i = 10 ∨ i = 6)) → b ≠ d + 1 → b ≠ d + 2 → I' b i = I b i) ∧ I' d 6 = (mOf c b0 : Int) ∧ ∀ i : Nat, i < mOf c b0 → I' (d + 1) i = c (b0 + 2 + 2 * i) - 48 ∧ I' (d + 2) i = c (b0 + 3 + 2 * i) - 48) (frZ I d)))) mX5_areDishesRead 0 0 14
      [(0, .ref d), (1, .ref s), (2, .int (zI 0))] [] (n, sh, I1, L, R) := by
    intro I1 f1 f2 f3 f4
    refine wk_iload_n (i := 2) (q := 15) dX5_areDishesRead_14 rfl rfl rfl ?_
    refine wk_aload_n (i := 0) (q := 16) dX5_areDishesRead_15 rfl rfl rfl ?_
    refine wk_getI (fi := 6) (q := 19) dX5_areDishesRead_16 rfl fl_X5_60 rfl rfl hO.ob ?_
    refine wk_icmp_ge (t := 78) (q := 22) dX5_areDishesRead_19 rfl rfl (by omega) (by omega) (fun hc19 => ?_) (fun hc19 => ?_)
    · refine wk_aload_n (i := 0) (q := 79) dX5_areDishesRead_78 rfl rfl rfl ?_
      refine wk_getI (fi := 6) (q := 82) dX5_areDishesRead_79 rfl fl_X5_60 rfl rfl hO.ob ?_
      refine wk_if_le (t := 89) (q := 85) dX5_areDishesRead_82 rfl rfl (by omega) (fun hc82 => ?_) (fun hc82 => ?_)
      · refine wk_iconst (q := 90) dX5_areDishesRead_89 rfl ?_
        refine wk_zret dX5_areDishesRead_90 rfl (by omega) ⟨Nat.le_refl _, Nat.le_refl _⟩ rfl ?_
        first
        | (exfalso; omega)
        | exact ⟨_, _, _, _, rfl, rfl, Or.inr ⟨rfl, rfl, rfl, fun q => f3 q.1, by rw [if_pos f3]; exact f2, f4⟩⟩
      · refine wk_iconst (q := 86) dX5_areDishesRead_85 rfl ?_
        refine wk_goto (t := 90) dX5_areDishesRead_86 rfl ?_
        refine wk_zret dX5_areDishesRead_90 rfl (by omega) ⟨Nat.le_refl _, Nat.le_refl _⟩ rfl ?_
        first
        | (exfalso; omega)
        | exact ⟨_, _, _, _, rfl, rfl, Or.inr ⟨rfl, rfl, rfl, fun q => f3 q.1, by rw [if_pos f3]; exact f2, f4⟩⟩
    · omega
  refine Ct.of (lo := [(0, _), (1, _)]) ok_X5_areDishesRead (Nat.le_of_ble_eq_true rfl) rfl ?_
  refine wk_aload_n (i := 0) (q := 1) dX5_areDishesRead_0 rfl rfl rfl ?_
  refine wk_aload_n (i := 0) (q := 2) dX5_areDishesRead_1 rfl rfl rfl ?_
  refine wk_aload_n (i := 1) (q := 3) dX5_areDishesRead_2 rfl rfl rfl ?_
  refine wk_iconst (q := 4) dX5_areDishesRead_3 rfl ?_
  refine wk_bipush (q := 6) dX5_areDishesRead_4 rfl (by decide +kernel) ?_
  refine wk_cZ3 (q := 9) dX5_areDishesRead_6 rfl vl_X5_56 ⟨_, _, rfl⟩ hO.ob (ct_X5_digit hO hS hds h (by omega) (by omega)) (qRo_m ok_X5_digit (by decide) (Nat.le_refl _) (Nat.le_refl _)) (Nat.le_of_ble_eq_true rfl) (fun v6 I6 L6 R6 hv6 => ?_)
  rcases hv6 with ⟨rfl, hv6⟩ | ⟨rfl, hv6⟩
  · obtain ⟨rfl, rfl, p6, x6, f6⟩ := hv6
    refine wk_putI (fi := 6) (q := 12) dX5_areDishesRead_9 rfl fl_X5_60 fw_5_6 rfl rfl hO.ob ?_
    refine wk_iconst (q := 13) dX5_areDishesRead_12 rfl ?_
    refine wk_istore_n (i := 2) (lo' := [(0, _), (1, _), (2, _)]) (q := 14) dX5_areDishesRead_13 rfl rfl (by decide) rfl ?_
    first
    | exact loop p6 (mOf c b0) rfl 0 (Nat.zero_le _) rfl _ (by
        refine (x6.fr (fun i => up_na _ _ _ _ (by omega)) (up_ni _ _ (by omega)) (up_ni _ _ (by omega)) : txI (up I6 d 6 (c (b0 + 1) - 48)) d s c e (b0 + 1 + 1)) |> fun z => ?_
        rw [show b0 + 1 + 1 = b0 + 2 + 2 * ((0 : Nat) : Int) by omega] at z
        exact z) (fun b i q1 q2 q3 => by rw [up_off (by omega)]; exact f6 b i (by omega)) (by rw [up_eq]; unfold mOf; omega) (fun i hi => absurd hi (by omega))
    | exact neg _ (up_eq _ _ _ _) (x6.fr (fun i => up_na _ _ _ _ (by omega)) (up_ni _ _ (by omega)) (up_ni _ _ (by omega))) p6 ⟨fun b i q => by rw [up_off (by omega), f6 _ _ (by omega)], by rw [up_off (by omega), f6 _ _ (by omega)]⟩
  · obtain ⟨rfl, rfl, p6, x6, f6⟩ := hv6
    refine wk_putI (fi := 6) (q := 12) dX5_areDishesRead_9 rfl fl_X5_60 fw_5_6 rfl rfl hO.ob ?_
    refine wk_iconst (q := 13) dX5_areDishesRead_12 rfl ?_
    refine wk_istore_n (i := 2) (lo' := [(0, _), (1, _), (2, _)]) (q := 14) dX5_areDishesRead_13 rfl rfl (by decide) rfl ?_
    first
    | exact loop p6 (mOf c b0) rfl 0 (Nat.zero_le _) rfl _ (by
        refine (x6.fr (fun i => up_na _ _ _ _ (by omega)) (up_ni _ _ (by omega)) (up_ni _ _ (by omega)) : txI (up I6 d 6 (c (b0 + 1) - 48)) d s c e (b0 + 1 + 1)) |> fun z => ?_
        rw [show b0 + 1 + 1 = b0 + 2 + 2 * ((0 : Nat) : Int) by omega] at z
        exact z) (fun b i q1 q2 q3 => by rw [up_off (by omega)]; exact f6 b i (by omega)) (by rw [up_eq]; unfold mOf; omega) (fun i hi => absurd hi (by omega))
    | exact neg _ (up_eq _ _ _ _) (x6.fr (fun i => up_na _ _ _ _ (by omega)) (up_ni _ _ (by omega)) (up_ni _ _ (by omega))) p6 ⟨fun b i q => by rw [up_off (by omega), f6 _ _ (by omega)], by rw [up_off (by omega), f6 _ _ (by omega)]⟩
theorem ct_X5_areGuestsRead {d s M : Nat} {c : Int → Int} {e b0 : Int} (hO : qTold E.2.2 n sh R d) (hS : qSheet E.2.2 n sh R s) (hds : d + 14 ≤ s) (h : txI I d s c e b0) (hM : I d 6 = (M : Int)) (hM2 : 2 ≤ M ∧ M ≤ 6) (h7 : I d 7 = 0) :
    Ct l E 3 mX5_areGuestsRead [.ref d, .ref s] (n, sh, I, L, R) 0 0 (qZ n sh (rdQ L R d s c e ((gEnd c e M 7 0 b0).1 = 1) 1 0 (gEnd c e M 7 0 b0).2.1 (gEnd c e M 7 0 b0).2.1 (fun I' => frA I d I' ∧ I' d 7 = ((gEnd c e M 7 0 b0).2.2 : Int) ∧ ∀ g : Nat, g < (gEnd c e M 7 0 b0).2.2 → gdD c M d (gp c e M b0 g) (g : Int) I') (frZ I d))) := by
  have loop : ∀ (f k : Nat), k + f = 7 → gEnd c e M f k (gp c e M b0 k) = gEnd c e M 7 0 b0 → ∀ I1 : qI, txI I1 d s c e (gp c e M b0 k) → frA I d I1 → I1 d 7 = (k : Int) → (∀ g : Nat, g < k → gdD c M d (gp c e M b0 g) (g : Int) I1) → Wk l E (qmo E 3 n 0 0 (qZ n sh (rdQ L R d s c e ((gEnd c e M 7 0 b0).1 = 1) 1 0 (gEnd c e M 7 0 b0).2.1 (gEnd c e M 7 0 b0).2.1 (fun I' => frA I d I' ∧ I' d 7 = ((gEnd c e M 7 0 b0).2.2 : Int) ∧ ∀ g : Nat, g < (gEnd c e M 7 0 b0).2.2 → gdD c M d (gp c e M b0 g) (g : Int) I') (frZ I d)))) mX5_areGuestsRead 0 0 2
      [(0, .ref d), (1, .ref s), (2, .int (zI (k : Int)))] [] (n, sh, I1, L, R) := by
    intro f
    induction f with
    | zero =>
      intro k hk hz I1 f1 f2 f3 f4
      have z := gEnd_stop (c := c) (M := M) (f := 0) (k := k) (e := e) (a := gp c e M b0 k) (Or.inl rfl)
      rw [hz] at z
      have x9 := f1.2.1
      have x10 := f1.2.2.1
      have x11 := f1.2.2.2
      refine wk_iload_n (i := 2) (q := 3) dX5_areGuestsRead_2 rfl rfl rfl ?_
      refine wk_bipush (q := 5) dX5_areGuestsRead_3 rfl (by decide +kernel) ?_
      refine wk_icmp_ge (t := 43) (q := 8) dX5_areGuestsRead_5 rfl rfl (by omega) (by omega) (fun hc5 => ?_) (fun hc5 => ?_)
      · refine wk_aload_n (i := 0) (q := 44) dX5_areGuestsRead_43 rfl rfl rfl ?_
        refine wk_getI (fi := 7) (q := 47) dX5_areGuestsRead_44 rfl fl_X5_42 rfl rfl hO.ob ?_
        refine wk_iconst (q := 48) dX5_areGuestsRead_47 rfl ?_
        refine wk_icmp_lt (t := 66) (q := 51) dX5_areGuestsRead_48 rfl rfl (by omega) (by omega) (fun hc48 => ?_) (fun hc48 => ?_)
        · refine wk_iconst (q := 67) dX5_areGuestsRead_66 rfl ?_
          refine wk_zret dX5_areGuestsRead_67 rfl (by omega) ⟨Nat.le_refl _, Nat.le_refl _⟩ rfl ?_
          first
          | (rw [if_pos (by omega)] at z
             exact ⟨_, _, _, _, rfl, rfl, Or.inl ⟨rfl, rfl, rfl, by rw [z], by rw [z]; exact f1, f2, by rw [z]; exact f3, by rw [z]; exact f4⟩⟩)
          | (rw [if_neg (by omega)] at z
             exact ⟨_, _, _, _, rfl, rfl, Or.inr ⟨rfl, rfl, rfl, by rw [z]; show ¬ (0 : Int) = 1; decide, by rw [z]; exact f1, ⟨fun b i q => by rw [f2 _ _ (by omega) (by omega) (by omega)], by rw [f2 _ _ (by omega) (by omega) (by omega)]⟩⟩⟩)
        · refine wk_aload_n (i := 0) (q := 52) dX5_areGuestsRead_51 rfl rfl rfl ?_
          refine wk_getI (fi := 10) (q := 55) dX5_areGuestsRead_52 rfl fl_X5_39 rfl rfl hO.ob ?_
          refine wk_aload_n (i := 0) (q := 56) dX5_areGuestsRead_55 rfl rfl rfl ?_
          refine wk_getI (fi := 9) (q := 59) dX5_areGuestsRead_56 rfl fl_X5_36 rfl rfl hO.ob ?_
          refine wk_icmp_ne (t := 66) (q := 62) dX5_areGuestsRead_59 rfl rfl (by omega) (by omega) (fun hc59 => ?_) (fun hc59 => ?_)
          · refine wk_iconst (q := 67) dX5_areGuestsRead_66 rfl ?_
            refine wk_zret dX5_areGuestsRead_67 rfl (by omega) ⟨Nat.le_refl _, Nat.le_refl _⟩ rfl ?_
            first
            | (rw [if_pos (by omega)] at z
               exact ⟨_, _, _, _, rfl, rfl, Or.inl ⟨rfl, rfl, rfl, by rw [z], by rw [z]; exact f1, f2, by rw [z]; exact f3, by rw [z]; exact f4⟩⟩)
            | (rw [if_neg (by omega)] at z
               exact ⟨_, _, _, _, rfl, rfl, Or.inr ⟨rfl, rfl, rfl, by rw [z]; show ¬ (0 : Int) = 1; decide, by rw [z]; exact f1, ⟨fun b i q => by rw [f2 _ _ (by omega) (by omega) (by omega)], by rw [f2 _ _ (by omega) (by omega) (by omega)]⟩⟩⟩)
          · refine wk_iconst (q := 63) dX5_areGuestsRead_62 rfl ?_
            refine wk_goto (t := 67) dX5_areGuestsRead_63 rfl ?_
            refine wk_zret dX5_areGuestsRead_67 rfl (by omega) ⟨Nat.le_refl _, Nat.le_refl _⟩ rfl ?_
            first
            | (rw [if_pos (by omega)] at z
               exact ⟨_, _, _, _, rfl, rfl, Or.inl ⟨rfl, rfl, rfl, by rw [z], by rw [z]; exact f1, f2, by rw [z]; exact f3, by rw [z]; exact f4⟩⟩)
            | (rw [if_neg (by omega)] at z
               exact ⟨_, _, _, _, rfl, rfl, Or.inr ⟨rfl, rfl, rfl, by rw [z]; show ¬ (0 : Int) = 1; decide, by rw [z]; exact f1, ⟨fun b i q => by rw [f2 _ _ (by omega) (by omega) (by omega)], by rw [f2 _ _ (by omega) (by omega) (by omega)]⟩⟩⟩)
      · omega
    | succ f ih =>
      intro k hk hz I1 f1 f2 f3 f4
      have x9 := f1.2.1
      have x10 := f1.2.2.1
      have x11 := f1.2.2.2
      have e6 : I1 d 6 = (M : Int) := by rw [f2 _ _ (by omega) (by omega) (by omega)]; exact hM
      have done : e ≤ gp c e M b0 k → gEnd c e M 7 0 b0 = (if 2 ≤ k ∧ gp c e M b0 k = e then 1 else 0, gp c e M b0 k, k) := fun q => by
        rw [← hz]
        exact gEnd_stop (Or.inr q)
      have more : ¬ e ≤ gp c e M b0 k → gEnd c e M 7 0 b0 = if (gF c e M (gp c e M b0 k)).1 = 0 then (0, (gF c e M (gp c e M b0 k)).2, k) else gEnd c e M f (k + 1) (gF c e M (gp c e M b0 k)).2 := fun q => by
        rw [← hz]
        exact gEnd_go q
      refine wk_iload_n (i := 2) (q := 3) dX5_areGuestsRead_2 rfl rfl rfl ?_
      refine wk_bipush (q := 5) dX5_areGuestsRead_3 rfl (by decide +kernel) ?_
      refine wk_icmp_ge (t := 43) (q := 8) dX5_areGuestsRead_5 rfl rfl (by omega) (by omega) (fun hc5 => ?_) (fun hc5 => ?_)
      · refine wk_aload_n (i := 0) (q := 44) dX5_areGuestsRead_43 rfl rfl rfl ?_
        refine wk_getI (fi := 7) (q := 47) dX5_areGuestsRead_44 rfl fl_X5_42 rfl rfl hO.ob ?_
        refine wk_iconst (q := 48) dX5_areGuestsRead_47 rfl ?_
        refine wk_icmp_lt (t := 66) (q := 51) dX5_areGuestsRead_48 rfl rfl (by omega) (by omega) (fun hc48 => ?_) (fun hc48 => ?_)
        · refine wk_iconst (q := 67) dX5_areGuestsRead_66 rfl ?_
          refine wk_zret dX5_areGuestsRead_67 rfl (by omega) ⟨Nat.le_refl _, Nat.le_refl _⟩ rfl ?_
          have z := done (by omega)
          first
            | (rw [if_pos (by omega)] at z
               exact ⟨_, _, _, _, rfl, rfl, Or.inl ⟨rfl, rfl, rfl, by rw [z], by rw [z]; exact f1, f2, by rw [z]; exact f3, by rw [z]; exact f4⟩⟩)
            | (rw [if_neg (by omega)] at z
               exact ⟨_, _, _, _, rfl, rfl, Or.inr ⟨rfl, rfl, rfl, by rw [z]; show ¬ (0 : Int) = 1; decide, by rw [z]; exact f1, ⟨fun b i q => by rw [f2 _ _ (by omega) (by omega) (by omega)], by rw [f2 _ _ (by omega) (by omega) (by omega)]⟩⟩⟩)
        · refine wk_aload_n (i := 0) (q := 52) dX5_areGuestsRead_51 rfl rfl rfl ?_
          refine wk_getI (fi := 10) (q := 55) dX5_areGuestsRead_52 rfl fl_X5_39 rfl rfl hO.ob ?_
          refine wk_aload_n (i := 0) (q := 56) dX5_areGuestsRead_55 rfl rfl rfl ?_
          refine wk_getI (fi := 9) (q := 59) dX5_areGuestsRead_56 rfl fl_X5_36 rfl rfl hO.ob ?_
          refine wk_icmp_ne (t := 66) (q := 62) dX5_areGuestsRead_59 rfl rfl (by omega) (by omega) (fun hc59 => ?_) (fun hc59 => ?_)
          · refine wk_iconst (q := 67) dX5_areGuestsRead_66 rfl ?_
            refine wk_zret dX5_areGuestsRead_67 rfl (by omega) ⟨Nat.le_refl _, Nat.le_refl _⟩ rfl ?_
            have z := done (by omega)
            first
              | (rw [if_pos (by omega)] at z
                 exact ⟨_, _, _, _, rfl, rfl, Or.inl ⟨rfl, rfl, rfl, by rw [z], by rw [z]; exact f1, f2, by rw [z]; exact f3, by rw [z]; exact f4⟩⟩)
              | (rw [if_neg (by omega)] at z
                 exact ⟨_, _, _, _, rfl, rfl, Or.inr ⟨rfl, rfl, rfl, by rw [z]; show ¬ (0 : Int) = 1; decide, by rw [z]; exact f1, ⟨fun b i q => by rw [f2 _ _ (by omega) (by omega) (by omega)], by rw [f2 _ _ (by omega) (by omega) (by omega)]⟩⟩⟩)
          · refine wk_iconst (q := 63) dX5_areGuestsRead_62 rfl ?_
            refine wk_goto (t := 67) dX5_areGuestsRead_63 rfl ?_
            refine wk_zret dX5_areGuestsRead_67 rfl (by omega) ⟨Nat.le_refl _, Nat.le_refl _⟩ rfl ?_
            have z := done (by omega)
            first
              | (rw [if_pos (by omega)] at z
                 exact ⟨_, _, _, _, rfl, rfl, Or.inl ⟨rfl, rfl, rfl, by rw [z], by rw [z]; exact f1, f2, by rw [z]; exact f3, by rw [z]; exact f4⟩⟩)
              | (rw [if_neg (by omega)] at z
                 exact ⟨_, _, _, _, rfl, rfl, Or.inr ⟨rfl, rfl, rfl, by rw [z]; show ¬ (0 : Int) = 1; decide, by rw [z]; exact f1, ⟨fun b i q => by rw [f2 _ _ (by omega) (by omega) (by omega)], by rw [f2 _ _ (by omega) (by omega) (by omega)]⟩⟩⟩)
      · refine wk_aload_n (i := 0) (q := 9) dX5_areGuestsRead_8 rfl rfl rfl ?_
        refine wk_getI (fi := 10) (q := 12) dX5_areGuestsRead_9 rfl fl_X5_39 rfl rfl hO.ob ?_
        refine wk_aload_n (i := 0) (q := 13) dX5_areGuestsRead_12 rfl rfl rfl ?_
        refine wk_getI (fi := 9) (q := 16) dX5_areGuestsRead_13 rfl fl_X5_36 rfl rfl hO.ob ?_
        refine wk_icmp_ge (t := 43) (q := 19) dX5_areGuestsRead_16 rfl rfl (by omega) (by omega) (fun hc16 => ?_) (fun hc16 => ?_)
        · refine wk_aload_n (i := 0) (q := 44) dX5_areGuestsRead_43 rfl rfl rfl ?_
          refine wk_getI (fi := 7) (q := 47) dX5_areGuestsRead_44 rfl fl_X5_42 rfl rfl hO.ob ?_
          refine wk_iconst (q := 48) dX5_areGuestsRead_47 rfl ?_
          refine wk_icmp_lt (t := 66) (q := 51) dX5_areGuestsRead_48 rfl rfl (by omega) (by omega) (fun hc48 => ?_) (fun hc48 => ?_)
          · refine wk_iconst (q := 67) dX5_areGuestsRead_66 rfl ?_
            refine wk_zret dX5_areGuestsRead_67 rfl (by omega) ⟨Nat.le_refl _, Nat.le_refl _⟩ rfl ?_
            have z := done (by omega)
            first
              | (rw [if_pos (by omega)] at z
                 exact ⟨_, _, _, _, rfl, rfl, Or.inl ⟨rfl, rfl, rfl, by rw [z], by rw [z]; exact f1, f2, by rw [z]; exact f3, by rw [z]; exact f4⟩⟩)
              | (rw [if_neg (by omega)] at z
                 exact ⟨_, _, _, _, rfl, rfl, Or.inr ⟨rfl, rfl, rfl, by rw [z]; show ¬ (0 : Int) = 1; decide, by rw [z]; exact f1, ⟨fun b i q => by rw [f2 _ _ (by omega) (by omega) (by omega)], by rw [f2 _ _ (by omega) (by omega) (by omega)]⟩⟩⟩)
          · refine wk_aload_n (i := 0) (q := 52) dX5_areGuestsRead_51 rfl rfl rfl ?_
            refine wk_getI (fi := 10) (q := 55) dX5_areGuestsRead_52 rfl fl_X5_39 rfl rfl hO.ob ?_
            refine wk_aload_n (i := 0) (q := 56) dX5_areGuestsRead_55 rfl rfl rfl ?_
            refine wk_getI (fi := 9) (q := 59) dX5_areGuestsRead_56 rfl fl_X5_36 rfl rfl hO.ob ?_
            refine wk_icmp_ne (t := 66) (q := 62) dX5_areGuestsRead_59 rfl rfl (by omega) (by omega) (fun hc59 => ?_) (fun hc59 => ?_)
            · refine wk_iconst (q := 67) dX5_areGuestsRead_66 rfl ?_
              refine wk_zret dX5_areGuestsRead_67 rfl (by omega) ⟨Nat.le_refl _, Nat.le_refl _⟩ rfl ?_
              have z := done (by omega)
              first
                | (rw [if_pos (by omega)] at z
                   exact ⟨_, _, _, _, rfl, rfl, Or.inl ⟨rfl, rfl, rfl, by rw [z], by rw [z]; exact f1, f2, by rw [z]; exact f3, by rw [z]; exact f4⟩⟩)
                | (rw [if_neg (by omega)] at z
                   exact ⟨_, _, _, _, rfl, rfl, Or.inr ⟨rfl, rfl, rfl, by rw [z]; show ¬ (0 : Int) = 1; decide, by rw [z]; exact f1, ⟨fun b i q => by rw [f2 _ _ (by omega) (by omega) (by omega)], by rw [f2 _ _ (by omega) (by omega) (by omega)]⟩⟩⟩)
            · refine wk_iconst (q := 63) dX5_areGuestsRead_62 rfl ?_
              refine wk_goto (t := 67) dX5_areGuestsRead_63 rfl ?_
              refine wk_zret dX5_areGuestsRead_67 rfl (by omega) ⟨Nat.le_refl _, Nat.le_refl _⟩ rfl ?_
              have z := done (by omega)
              first
                | (rw [if_pos (by omega)] at z
                   exact ⟨_, _, _, _, rfl, rfl, Or.inl ⟨rfl, rfl, rfl, by rw [z], by rw [z]; exact f1, f2, by rw [z]; exact f3, by rw [z]; exact f4⟩⟩)
                | (rw [if_neg (by omega)] at z
                   exact ⟨_, _, _, _, rfl, rfl, Or.inr ⟨rfl, rfl, rfl, by rw [z]; show ¬ (0 : Int) = 1; decide, by rw [z]; exact f1, ⟨fun b i q => by rw [f2 _ _ (by omega) (by omega) (by omega)], by rw [f2 _ _ (by omega) (by omega) (by omega)]⟩⟩⟩)
        · refine wk_aload_n (i := 0) (q := 20) dX5_areGuestsRead_19 rfl rfl rfl ?_
          refine wk_aload_n (i := 1) (q := 21) dX5_areGuestsRead_20 rfl rfl rfl ?_
          refine wk_iload_n (i := 2) (q := 22) dX5_areGuestsRead_21 rfl rfl rfl ?_
          refine wk_cZ2 (q := 25) dX5_areGuestsRead_22 rfl vl_X5_63 ⟨_, _, rfl⟩ hO.ob (ct_X5_isGuestRead (M := M) hO hS hds f1 e6 hM2 (by omega)) (qRo_m ok_X5_isGuestRead (by decide) (Nat.le_refl _) (Nat.le_refl _)) (Nat.le_of_ble_eq_true rfl) (fun v22 I22 L22 R22 hv22 => ?_)
          rcases hv22 with ⟨rfl, hv22⟩ | ⟨rfl, hv22⟩
          · obtain ⟨rfl, rfl, p22, x22, f22⟩ := hv22
            have m1 := more (by omega)
            refine wk_if_ne (t := 30) (q := 28) dX5_areGuestsRead_25 rfl rfl (by omega) (fun _ => ?_) (fun hq => absurd hq (by decide))
            refine wk_aload_n (i := 0) (q := 31) dX5_areGuestsRead_30 rfl rfl rfl ?_
            refine wk_iload_n (i := 2) (q := 32) dX5_areGuestsRead_31 rfl rfl rfl ?_
            refine wk_iconst (q := 33) dX5_areGuestsRead_32 rfl ?_
            refine wk_iadd (q := 34) dX5_areGuestsRead_33 rfl ?_
            refine wk_putI (fi := 7) (q := 37) dX5_areGuestsRead_34 rfl fl_X5_42 fw_5_7 rfl rfl hO.ob ?_
            refine wk_iinc (lo' := [(0, _), (1, _), (2, _)]) (q := 40) dX5_areGuestsRead_37 rfl rfl (by decide) rfl ?_
            refine wk_goto (t := 2) dX5_areGuestsRead_40 rfl ?_
            rw [if_neg (by omega)] at m1
            obtain ⟨k1, k2⟩ := f22
            have kd : ∀ (b : Nat) (i : Int), ¬ (b = d ∧ i = 10) → ¬ (d + 3 ≤ b ∧ b ≤ d + 5) → ¬ (d + 7 ≤ b ∧ b < d + 14) → I22 b i = I1 b i := fun b i q1 q2 q3 => k1 b i q1 (by omega) (by omega)
            refine ih (k + 1) (by omega) m1.symm _ (x22.fr (fun i => up_na _ _ _ _ (by omega)) (up_ni _ _ (by omega)) (up_ni _ _ (by omega))) (fun b i q1 q2 q3 => by rw [up_off (by omega), kd b i (by omega) q2 q3]; exact f2 b i q1 q2 q3) (up_eq _ _ _ _) (fun g hg => ?_)
            have up7 : ∀ b i, b ≠ d → up I22 d 7 ((k : Int) + 1) b i = I22 b i := fun b i q => up_na _ _ _ _ q
            by_cases q : g = k
            · subst q
              obtain ⟨y1, y2, y3, y4⟩ := k2
              exact ⟨by rw [up7 _ _ (by omega)]; exact y1, by rw [up7 _ _ (by omega)]; exact y2, by rw [up7 _ _ (by omega)]; exact y3, fun i hi => by rw [up7 _ _ (by omega)]; exact y4 i hi⟩
            · obtain ⟨y1, y2, y3, y4⟩ := f4 g (by omega)
              exact ⟨by rw [up7 _ _ (by omega), k1 _ _ (by omega) (by omega) (by omega)]; exact y1, by rw [up7 _ _ (by omega), k1 _ _ (by omega) (by omega) (by omega)]; exact y2, by rw [up7 _ _ (by omega), k1 _ _ (by omega) (by omega) (by omega)]; exact y3, fun i hi => by rw [up7 _ _ (by omega), k1 _ _ (by omega) (by omega) (by omega)]; exact y4 i hi⟩
          · obtain ⟨rfl, rfl, p22, x22, f22⟩ := hv22
            have m1 := more (by omega)
            refine wk_if_ne (t := 30) (q := 28) dX5_areGuestsRead_25 rfl rfl (by omega) (fun hq => absurd hq (by decide)) (fun _ => ?_)
            refine wk_iconst (q := 29) dX5_areGuestsRead_28 rfl ?_
            refine wk_zret dX5_areGuestsRead_29 rfl (by omega) ⟨Nat.le_refl _, Nat.le_refl _⟩ rfl ?_
            rcases gF_01 c e M (gp c e M b0 k) with z | z
            · rw [if_pos z] at m1
              exact ⟨_, _, _, _, rfl, rfl, Or.inr ⟨rfl, rfl, rfl, by rw [m1]; show ¬ (0 : Int) = 1; decide, by rw [m1]; exact x22, ⟨fun b i q => by rw [f22.1 b i q, f2 _ _ (by omega) (by omega) (by omega)], by rw [f22.2, f2 _ _ (by omega) (by omega) (by omega)]⟩⟩⟩
            · exact absurd z p22
  refine Ct.of (lo := [(0, _), (1, _)]) ok_X5_areGuestsRead (Nat.le_of_ble_eq_true rfl) rfl ?_
  refine wk_iconst (q := 1) dX5_areGuestsRead_0 rfl ?_
  refine wk_istore_n (i := 2) (lo' := [(0, _), (1, _), (2, _)]) (q := 2) dX5_areGuestsRead_1 rfl rfl (by decide) rfl ?_
  exact loop 7 0 rfl rfl I h (fun _ _ _ _ _ => rfl) h7 (fun g hg => absurd hg (by omega))
theorem ct_X5_place {d : Nat} (hO : qTold E.2.2 n sh R d) : Ct l E 0 mX5_place [.ref d] (n, sh, I, L, R) 0 0 (qP n sh I L R (fun v => v = I d 10 - I d 8)) := by
  refine Ct.of (lo := [(0, _)]) ok_X5_place (Nat.le_of_ble_eq_true rfl) rfl ?_
  refine wk_aload_n (i := 0) (q := 1) dX5_place_0 rfl rfl rfl ?_
  refine wk_getI (fi := 10) (q := 4) dX5_place_1 rfl fl_X5_39 rfl rfl hO.ob ?_
  refine wk_aload_n (i := 0) (q := 5) dX5_place_4 rfl rfl rfl ?_
  refine wk_getI (fi := 8) (q := 8) dX5_place_5 rfl fl_X5_32 rfl rfl hO.ob ?_
  refine wk_isub (q := 9) dX5_place_8 rfl ?_
  refine wk_iret dX5_place_9 rfl ⟨Nat.le_refl _, Nat.le_refl _⟩ rfl ?_
  refine ⟨_, _, _, _, rfl, rfl, rfl, rfl, rfl, ?_⟩
  rfl
end TEXT3
