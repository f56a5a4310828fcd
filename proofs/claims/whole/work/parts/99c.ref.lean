/-! TABLE, the reference reads -/
def txM (I : qI) (m : Nat) (k : Int) (c : Int → Int) (e a : Int) : Prop := (∀ p, 0 ≤ p → p < 100 → I (m + 3) (100 * k + p) = c p ∧ in32 (c p)) ∧ I m 19 = 100 * k + a ∧ 0 ≤ e ∧ e ≤ 100 ∧ 0 ≤ a ∧ a ≤ e ∧ 0 ≤ k ∧ k < 4
theorem txM.fr {I I' : qI} {m : Nat} {k : Int} {c : Int → Int} {e a : Int} (h : txM I m k c e a) (h1 : ∀ i, I' (m + 3) i = I (m + 3) i) (h2 : I' m 19 = I m 19) : txM I' m k c e a :=
  ⟨fun p p0 p1 => by rw [h1]; exact h.1 p p0 p1, h2.trans h.2.1, h.2.2⟩
theorem txM.up {I I' : qI} {m : Nat} {k : Int} {c : Int → Int} {e a a' : Int} (h : txM I m k c e a) (h1 : ∀ i, I' (m + 3) i = I (m + 3) i) (h2 : I' m 19 = 100 * k + a') (h3 : a ≤ a' ∧ a' ≤ e) : txM I' m k c e a' :=
  ⟨fun p p0 p1 => by rw [h1]; exact h.1 p p0 p1, h2, h.2.2.1, h.2.2.2.1, by have := h.2.2.2.2.1; omega, h3.2, h.2.2.2.2.2.2⟩
def gdM (c : Int → Int) (M m : Nat) (p g : Int) (I' : qI) : Prop := I' (m + 15) g = kdL c p ∧ I' (m + 16) g = c (p + 1) - 48 ∧ I' (m + 17) g = (if c p = 112 then c (p + 2) - 48 else 0) ∧ ∀ j : Nat, j < M → I' (m + 18) (6 * g + j) = wv c (wOf c p + j)
def frK (I : qI) (m : Nat) (g : Int) : qI → Prop := fun I' => ∀ b i, ¬ (b = m ∧ (i = 19 ∨ i = 20)) → ¬ ((b = m + 15 ∨ b = m + 16 ∨ b = m + 17) ∧ i = g) → ¬ (b = m + 18 ∧ 6 * g ≤ i ∧ i < 6 * g + 6) → I' b i = I b i
/-- nothing but what reading writes -/
def frH (I : qI) (m : Nat) : qI → Prop := fun I' => ∀ b i, ¬ (b = m ∧ 19 ≤ i ∧ i ≤ 21) → ¬ (m + 13 ≤ b ∧ b ≤ m + 18) → I' b i = I b i
def rdM (L : qI) (R : qR) (m : Nat) (k : Int) (c : Int → Int) (e : Int) (P : Prop) (a1 a0 : Int) (F1 F0 : qI → Prop) : Int → qI → qI → qR → Prop := fun v I' L' R' => (v = 1 ∧ L' = L ∧ R' = R ∧ P ∧ txM I' m k c e a1 ∧ F1 I') ∨ (v = 0 ∧ L' = L ∧ R' = R ∧ ¬ P ∧ txM I' m k c e a0 ∧ F0 I')
theorem gB_1 {c : Int → Int} {e : Int} {M : Nat} {p : Int} (h : ¬ ltOk c e p) : gB c e M p = (0, p) := if_pos h
theorem gB_2 {c : Int → Int} {e : Int} {M : Nat} {p : Int} (h1 : ltOk c e p) (h : ¬ dgOk c e (p + 1) 0 9) : gB c e M p = (0, p + 1) := by
  unfold gB
  rw [if_neg (fun q => q h1), if_pos h]
theorem gB_3 {c : Int → Int} {e : Int} {M : Nat} {p : Int} (h1 : ltOk c e p) (h2 : dgOk c e (p + 1) 0 9) (hp : c p = 112) (h : ¬ dgOk c e (p + 2) 0 9) : gB c e M p = (0, p + 2) := by
  unfold gB
  rw [if_neg (fun q => q h1), if_neg (fun q => q h2), if_pos ⟨hp, h⟩]
theorem gB_4 {c : Int → Int} {e : Int} {M : Nat} {p : Int} (h1 : ltOk c e p) (h2 : dgOk c e (p + 1) 0 9) (h3 : c p = 112 → dgOk c e (p + 2) 0 9) : gB c e M p = if fstN (sgB c e M (wOf c p)) M = M then (1, wOf c p + M) else (0, wOf c p + fstN (sgB c e M (wOf c p)) M) := by
  unfold gB
  rw [if_neg (fun q => q h1), if_neg (fun q => q h2), if_neg (fun q => q.2 (h3 q.1))]
section TEXT5
variable {l : Launch} {E : qEv} {n : Nat} {sh : qSh} {I L : qI} {R : qR}
theorem ct_X7_isCode {m : Nat} {k e a g : Int} {c : Int → Int} (hM : qMod E.2.2 n sh R m) (h : txM I m k c e a) (hg : in32 g) :
    Ct l E 0 mX7_isCode [.ref m, .int (zI g), .int (zI (100 * k + e))] (n, sh, I, L, R) 0 0 (qP n sh I L R (qBo (a < e ∧ c a = g))) := by
  obtain ⟨h1, h2, h3, h4, h5, h6, h7, h8⟩ := id h
  refine Ct.of (lo := [(0, _), (1, _), (2, _)]) ok_X7_isCode (Nat.le_of_ble_eq_true rfl) rfl ?_
  refine wk_aload_n (i := 0) (q := 1) dX7_isCode_0 rfl rfl rfl ?_
  refine wk_getI (fi := 19) (q := 4) dX7_isCode_1 rfl fl_X7_131 rfl rfl hM.ob ?_
  refine wk_iload_n (i := 2) (q := 5) dX7_isCode_4 rfl rfl rfl ?_
  refine wk_icmp_ge (t := 25) (q := 8) dX7_isCode_5 rfl rfl (by omega) (by omega) (fun hc5 => ?_) (fun hc5 => ?_)
  · refine wk_iconst (q := 26) dX7_isCode_25 rfl ?_
    refine wk_zret dX7_isCode_26 rfl (by omega) ⟨Nat.le_refl _, Nat.le_refl _⟩ rfl ?_
    refine ⟨_, _, _, _, rfl, rfl, rfl, rfl, rfl, ?_⟩
    unfold qBo
    omega
  · refine wk_aload_n (i := 0) (q := 9) dX7_isCode_8 rfl rfl rfl ?_
    refine wk_getR (fi := 4) (q := 12) dX7_isCode_9 rfl fl_X7_16 rfl rfl hM.ob hM.r4 ?_
    refine wk_aload_n (i := 0) (q := 13) dX7_isCode_12 rfl rfl rfl ?_
    refine wk_getI (fi := 19) (q := 16) dX7_isCode_13 rfl fl_X7_131 rfl rfl hM.ob ?_
    have q := h1 a (by omega) (by omega)
    rw [h2]
    refine wk_iald (q := 17) dX7_isCode_16 rfl hM.s4 (by omega) ?_
    refine wk_iload_n (i := 1) (q := 18) dX7_isCode_17 rfl rfl rfl ?_
    refine wk_icmp_ne (t := 25) (q := 21) dX7_isCode_18 rfl rfl (by omega) (by omega) (fun hc18 => ?_) (fun hc18 => ?_)
    · refine wk_iconst (q := 26) dX7_isCode_25 rfl ?_
      refine wk_zret dX7_isCode_26 rfl (by omega) ⟨Nat.le_refl _, Nat.le_refl _⟩ rfl ?_
      refine ⟨_, _, _, _, rfl, rfl, rfl, rfl, rfl, ?_⟩
      unfold qBo
      omega
    · refine wk_iconst (q := 22) dX7_isCode_21 rfl ?_
      refine wk_goto (t := 26) dX7_isCode_22 rfl ?_
      refine wk_zret dX7_isCode_26 rfl (by omega) ⟨Nat.le_refl _, Nat.le_refl _⟩ rfl ?_
      refine ⟨_, _, _, _, rfl, rfl, rfl, rfl, rfl, ?_⟩
      unfold qBo
      omega
theorem ct_X7_digitAt {m : Nat} {k e a : Int} {c : Int → Int} (hM : qMod E.2.2 n sh R m) (h : txM I m k c e a) :
    Ct l E 1 mX7_digitAt [.ref m, .int (zI (100 * k + a)), .int (zI (100 * k + e))] (n, sh, I, L, R) 0 0 (qP n sh I L R (fun v => v = if dgOk c e a 0 9 then c a - 48 else -9)) := by
  obtain ⟨h1, h2, h3, h4, h5, h6, h7, h8⟩ := id h
  refine Ct.of (lo := [(0, _), (1, _), (2, _)]) ok_X7_digitAt (Nat.le_of_ble_eq_true rfl) rfl ?_
  refine wk_iload_n (i := 1) (q := 1) dX7_digitAt_0 rfl rfl rfl ?_
  refine wk_iload_n (i := 2) (q := 2) dX7_digitAt_1 rfl rfl rfl ?_
  refine wk_icmp_ge (t := 33) (q := 5) dX7_digitAt_2 rfl rfl (by omega) (by omega) (fun hc2 => ?_) (fun hc2 => ?_)
  · refine wk_bipush (q := 35) dX7_digitAt_33 rfl (by decide +kernel) ?_
    refine wk_iret dX7_digitAt_35 rfl ⟨Nat.le_refl _, Nat.le_refl _⟩ rfl ?_
    refine ⟨_, _, _, _, rfl, rfl, rfl, rfl, rfl, ?_⟩
    first
      | (rw [if_pos (by omega)]; omega)
      | rw [if_neg (by omega)]
  · refine wk_aload_n (i := 0) (q := 6) dX7_digitAt_5 rfl rfl rfl ?_
    refine wk_getR (fi := 4) (q := 9) dX7_digitAt_6 rfl fl_X7_16 rfl rfl hM.ob hM.r4 ?_
    refine wk_iload_n (i := 1) (q := 10) dX7_digitAt_9 rfl rfl rfl ?_
    have q := h1 a (by omega) (by omega)
    refine wk_iald (q := 11) dX7_digitAt_10 rfl hM.s4 (by omega) ?_
    refine wk_bipush (q := 13) dX7_digitAt_11 rfl (by decide +kernel) ?_
    refine wk_bipush (q := 15) dX7_digitAt_13 rfl (by decide +kernel) ?_
    refine wk_sP3 (q := 18) dX7_digitAt_15 rfl sl_X7_121 (ct_X7_within (by omega) (by omega) (by omega)) (qRo_m ok_X7_within (by decide) (Nat.le_refl _) (Nat.le_refl _)) (Nat.le_of_ble_eq_true rfl) (fun v15 hv15 => ?_)
    rcases hv15 with ⟨rfl, hv15⟩ | ⟨rfl, hv15⟩
    · refine wk_if_eq (t := 33) (q := 21) dX7_digitAt_18 rfl rfl (by omega) (fun hq => absurd hq (by decide)) (fun _ => ?_)
      refine wk_aload_n (i := 0) (q := 22) dX7_digitAt_21 rfl rfl rfl ?_
      refine wk_getR (fi := 4) (q := 25) dX7_digitAt_22 rfl fl_X7_16 rfl rfl hM.ob hM.r4 ?_
      refine wk_iload_n (i := 1) (q := 26) dX7_digitAt_25 rfl rfl rfl ?_
      refine wk_iald (q := 27) dX7_digitAt_26 rfl hM.s4 (by omega) ?_
      refine wk_bipush (q := 29) dX7_digitAt_27 rfl (by decide +kernel) ?_
      refine wk_isub (q := 30) dX7_digitAt_29 rfl ?_
      refine wk_goto (t := 35) dX7_digitAt_30 rfl ?_
      refine wk_iret dX7_digitAt_35 rfl ⟨Nat.le_refl _, Nat.le_refl _⟩ rfl ?_
      refine ⟨_, _, _, _, rfl, rfl, rfl, rfl, rfl, ?_⟩
      first
        | (rw [if_pos (by omega)]; omega)
        | rw [if_neg (by omega)]
    · refine wk_if_eq (t := 33) (q := 21) dX7_digitAt_18 rfl rfl (by omega) (fun _ => ?_) (fun hq => absurd hq (by decide))
      refine wk_bipush (q := 35) dX7_digitAt_33 rfl (by decide +kernel) ?_
      refine wk_iret dX7_digitAt_35 rfl ⟨Nat.le_refl _, Nat.le_refl _⟩ rfl ?_
      refine ⟨_, _, _, _, rfl, rfl, rfl, rfl, rfl, ?_⟩
      first
        | (rw [if_pos (by omega)]; omega)
        | rw [if_neg (by omega)]
theorem ct_X7_readGuest {m M : Nat} {k e p g : Int} {c : Int → Int} (hM : qMod E.2.2 n sh R m) (h : txM I m k c e p) (h20 : I m 20 = g) (h21 : I m 21 = (M : Int)) (hM2 : 2 ≤ M ∧ M ≤ 6) (hg : 0 ≤ g ∧ g < 7) :
    Ct l E 2 mX7_readGuest [.ref m, .int (zI (100 * k + e))] (n, sh, I, L, R) 0 0 (qZ n sh (rdM L R m k c e ((gB c e M p).1 = 1) (gB c e M p).2 (gB c e M p).2 (fun I' => frK I m g I' ∧ I' m 20 = g + 1 ∧ gdM c M m p g I') (frH I m))) := by
  obtain ⟨h1, h2, h3, h4, h5, h6, h7, h8⟩ := id h
  have fz : ∀ I' : qI, frK I m g I' → frH I m I' := fun I' q b i q1 q2 => q b i (by omega) (by omega) (by omega)
  have bad : ∀ (a0 : Int) (I1 : qI), gB c e M p = (0, a0) → txM I1 m k c e a0 → frK I m g I1 → qZ n sh (rdM L R m k c e ((gB c e M p).1 = 1) (gB c e M p).2 (gB c e M p).2 (fun I' => frK I m g I' ∧ I' m 20 = g + 1 ∧ gdM c M m p g I') (frH I m)) (some (.int (zI 0))) (n, sh, I1, L, R) := by
    intro a0 I1 q1 q2 q3
    exact ⟨_, _, _, _, rfl, rfl, Or.inr ⟨rfl, rfl, rfl, by rw [q1]; show ¬ (0 : Int) = 1; decide, by rw [q1]; exact q2, fz _ q3⟩⟩
  have loop : ltOk c e p → dgOk c e (p + 1) 0 9 → (c p = 112 → dgOk c e (p + 2) 0 9) → ∀ j : Nat, j ≤ M → fstN (sgB c e M (wOf c p)) j = j → ∀ I1 : qI, txM I1 m k c e (wOf c p + j) → frK I m g I1 → I1 m 20 = g → I1 (m + 15) g = kdL c p → I1 (m + 16) g = c (p + 1) - 48 → I1 (m + 17) g = (if c p = 112 then c (p + 2) - 48 else 0) → (∀ i : Nat, i < j → I1 (m + 18) (6 * g + i) = wv c (wOf c p + i)) → Wk l E (qmo E 2 n 0 0 (qZ n sh (rdM L R m k c e ((gB c e M p).1 = 1) (gB c e M p).2 (gB c e M p).2 (fun I' => frK I m g I' ∧ I' m 20 = g + 1 ∧ gdM c M m p g I') (frH I m)))) mX7_readGuest 0 0 175
      [(0, .ref m), (1, .int (zI (100 * k + e))), (2, .int (zI g)), (3, .int (zI (if allX c (wOf c p) j then 0 else 1))), (4, .int (zI (j : Int)))] [] (n, sh, I1, L, R) := by
    intro p1 p2 p3
    have e4 := gB_4 (M := M) p1 p2 p3
    refine up_ind M ?_ ?_
    · intro hf I1 f1 f2 f20 d1 d2 d3 d4
      have e21 : I1 m 21 = (M : Int) := by rw [f2 _ _ (by omega) (by omega) (by omega)]; exact h21
      rw [if_pos hf] at e4
      refine wk_iload (i := 4) (q := 177) dX7_readGuest_175 rfl rfl ?_
      refine wk_aload_n (i := 0) (q := 178) dX7_readGuest_177 rfl rfl rfl ?_
      refine wk_getI (fi := 21) (q := 181) dX7_readGuest_178 rfl fl_X7_158 rfl rfl hM.ob ?_
      refine wk_icmp_ge (t := 285) (q := 184) dX7_readGuest_181 rfl rfl (by omega) (by omega) (fun hc181 => ?_) (fun hc181 => ?_)
      · refine wk_aload_n (i := 0) (q := 286) dX7_readGuest_285 rfl rfl rfl ?_
        refine wk_dup (q := 287) dX7_readGuest_286 rfl rfl ?_
        refine wk_getI (fi := 20) (q := 290) dX7_readGuest_287 rfl fl_X7_155 rfl rfl hM.ob ?_
        refine wk_iconst (q := 291) dX7_readGuest_290 rfl ?_
        refine wk_iadd (q := 292) dX7_readGuest_291 rfl ?_
        refine wk_putI (fi := 20) (q := 295) dX7_readGuest_292 rfl fl_X7_155 fw_7_20 rfl rfl hM.ob ?_
        refine wk_iconst (q := 296) dX7_readGuest_295 rfl ?_
        refine wk_zret dX7_readGuest_296 rfl (by omega) ⟨Nat.le_refl _, Nat.le_refl _⟩ rfl ?_
        exact ⟨_, _, _, _, rfl, rfl, Or.inl ⟨rfl, rfl, rfl, by rw [e4], by rw [e4]; exact f1.fr (fun i => up_na _ _ _ _ (by omega)) (up_ni _ _ (by omega)), fun b i q1 q2 q3 => by rw [up_off (by omega)]; exact f2 b i q1 q2 q3, by rw [up_eq, f20], by rw [up_na _ _ _ _ (by omega)]; exact d1, by rw [up_na _ _ _ _ (by omega)]; exact d2, by rw [up_na _ _ _ _ (by omega)]; exact d3, fun j hj => by rw [up_na _ _ _ _ (by omega)]; exact d4 j hj⟩⟩
      · omega
    · intro j hj ih hf I1 f1 f2 f20 d1 d2 d3 d4
      have e21 : I1 m 21 = (M : Int) := by rw [f2 _ _ (by omega) (by omega) (by omega)]; exact h21
      have e19 := f1.2.1
      have w0 : p ≤ wOf c p := by
        unfold wOf
        split <;> omega
      have ub : (if allX c (wOf c p) j then (0 : Int) else 1) = 0 ∨ (if allX c (wOf c p) j then (0 : Int) else 1) = 1 := by
        split
        · exact Or.inl rfl
        · exact Or.inr rfl
      have ua : (if allX c (wOf c p) j then (0 : Int) else 1) = 0 ↔ allX c (wOf c p) j = true := by
        cases allX c (wOf c p) j <;> simp
      have ax : allX c (wOf c p) (j + 1) = (allX c (wOf c p) j && (c (wOf c p + (j : Int)) == 120)) := rfl
      have fail : sgB c e M (wOf c p) j = false → qZ n sh (rdM L R m k c e ((gB c e M p).1 = 1) (gB c e M p).2 (gB c e M p).2 (fun I' => frK I m g I' ∧ I' m 20 = g + 1 ∧ gdM c M m p g I') (frH I m)) (some (.int (zI 0))) (n, sh, I1, L, R) := fun hb => by
        have st := fstN_stop' hf hb hj
        rw [if_neg (by omega), st] at e4
        exact bad _ _ e4 f1 f2
      have at207 : ∀ v : Int, (sgB c e M (wOf c p) j = true ∨ v = -9 ∨ (v = -1 ∧ allX c (wOf c p) j = true ∧ j + 1 = M)) → (v = -9 → sgB c e M (wOf c p) j = false) → (v = -1 → allX c (wOf c p) j = true → j + 1 = M → sgB c e M (wOf c p) j = false) → (v ≠ -9 → v = wv c (wOf c p + j)) → (v ≠ -9 → (v = -1 ↔ c (wOf c p + j) = 120)) → -9 ≤ v ∧ v ≤ 9 → ∀ lo : List (Nat × Value), lo = [(0, .ref m), (1, .int (zI (100 * k + e))), (2, .int (zI g)), (3, .int (zI (if allX c (wOf c p) j then 0 else 1))), (4, .int (zI (j : Int)))] → Wk l E (qmo E 2 n 0 0 (qZ n sh (rdM L R m k c e ((gB c e M p).1 = 1) (gB c e M p).2 (gB c e M p).2 (fun I' => frK I m g I' ∧ I' m 20 = g + 1 ∧ gdM c M m p g I') (frH I m)))) mX7_readGuest 0 0 207
          lo [.int (zI v)] (n, sh, I1, L, R) := by
        intro v v1 v2 v3 v4 v5 v6 lo hlo
        subst hlo
        have nx : ∀ w : Int, sgB c e M (wOf c p) j = true → v ≠ -9 → w = (if allX c (wOf c p) (j + 1) then 0 else 1) → Wk l E (qmo E 2 n 0 0 (qZ n sh (rdM L R m k c e ((gB c e M p).1 = 1) (gB c e M p).2 (gB c e M p).2 (fun I' => frK I m g I' ∧ I' m 20 = g + 1 ∧ gdM c M m p g I') (frH I m)))) mX7_readGuest 0 0 254
            [(0, .ref m), (1, .int (zI (100 * k + e))), (2, .int (zI g)), (3, .int (zI (if allX c (wOf c p) j then 0 else 1))), (4, .int (zI (j : Int))), (5, .int (zI v))] [.int (zI w)] (n, sh, I1, L, R) := by
          intro w hs hv hw
          subst hw
          have sg : wOf c p + j < e := by
            have := of_decide_eq_true hs
            rcases this with q | q
            · exact q.1
            · exact q.1
          have hv4 := v4 hv
          refine wk_istore_n (i := 3) (lo' := [(0, _), (1, _), (2, _), (3, _), (4, _), (5, _)]) (q := 255) dX7_readGuest_254 rfl rfl (by decide) rfl ?_
          refine wk_aload_n (i := 0) (q := 256) dX7_readGuest_255 rfl rfl rfl ?_
          refine wk_getR (fi := 27) (q := 259) dX7_readGuest_256 rfl fl_X7_61 rfl rfl hM.ob hM.r27 ?_
          refine wk_bipush (q := 261) dX7_readGuest_259 rfl (by decide +kernel) ?_
          refine wk_iload_n (i := 2) (q := 262) dX7_readGuest_261 rfl rfl rfl ?_
          refine wk_imul (q := 263) dX7_readGuest_262 rfl ?_
          refine wk_iload (i := 4) (q := 265) dX7_readGuest_263 rfl rfl ?_
          refine wk_iadd (q := 266) dX7_readGuest_265 rfl ?_
          refine wk_iload (i := 5) (q := 268) dX7_readGuest_266 rfl rfl ?_
          refine wk_iast (q := 269) dX7_readGuest_268 rfl hM.s27 (by omega) ?_
          refine wk_aload_n (i := 0) (q := 270) dX7_readGuest_269 rfl rfl rfl ?_
          refine wk_dup (q := 271) dX7_readGuest_270 rfl rfl ?_
          refine wk_getI (fi := 19) (q := 274) dX7_readGuest_271 rfl fl_X7_131 rfl rfl hM.ob ?_
          refine wk_iconst (q := 275) dX7_readGuest_274 rfl ?_
          refine wk_iadd (q := 276) dX7_readGuest_275 rfl ?_
          refine wk_putI (fi := 19) (q := 279) dX7_readGuest_276 rfl fl_X7_131 fw_7_19 rfl rfl hM.ob ?_
          refine wk_iinc (lo' := [(0, _), (1, _), (2, _), (3, _), (4, _), (5, _)]) (q := 282) dX7_readGuest_279 rfl rfl (by decide) rfl ?_
          refine wk_goto (t := 175) dX7_readGuest_282 rfl ?_
          refine wk_del (i := 5) (lo' := [(0, _), (1, _), (2, _), (3, _), (4, _)]) rfl ?_
          refine ih (fstN_go hf hs) _ (f1.up (fun i => by rw [up_na _ _ _ _ (by omega), up_na _ _ _ _ (by omega)]) (by rw [up_eq, up_na _ _ _ _ (by omega), e19]; omega) (by omega)) (fun b i q1 q2 q3 => by rw [up_off (by omega), up_off (by omega)]; exact f2 b i q1 q2 q3) (by rw [up_ni _ _ (by omega), up_na _ _ _ _ (by omega)]; exact f20) (by rw [up_na _ _ _ _ (by omega), up_na _ _ _ _ (by omega)]; exact d1) (by rw [up_na _ _ _ _ (by omega), up_na _ _ _ _ (by omega)]; exact d2) (by rw [up_na _ _ _ _ (by omega), up_na _ _ _ _ (by omega)]; exact d3) (fun i hi => ?_)
          rw [up_na _ _ _ _ (by omega)]
          by_cases q : i = j
          · subst q
            rw [up_eq]
            exact hv4
          · rw [up_ni _ _ (by omega)]
            exact d4 i (by omega)
        have w0' : v ≠ -9 → (if allX c (wOf c p) j then (0 : Int) else 1) = 0 → v = -1 → (if allX c (wOf c p) (j + 1) then (0 : Int) else 1) = 0 := fun a b d => by
          rw [ax, ua.mp b, show (c (wOf c p + (j : Int)) == 120) = true from by simp only [beq_iff_eq]; exact (v5 a).mp d]
          rfl
        have w1' : v ≠ -9 → ((if allX c (wOf c p) j then (0 : Int) else 1) = 1 ∨ v ≠ -1) → (if allX c (wOf c p) (j + 1) then (0 : Int) else 1) = 1 := fun a b => by
          rw [ax]
          rcases b with b | b
          · have z : allX c (wOf c p) j = false := by
              cases y : allX c (wOf c p) j with
              | false => rfl
              | true =>
                have := ua.mpr y
                omega
            rw [z]
            rfl
          · rw [show (c (wOf c p + (j : Int)) == 120) = false from by simp only [beq_eq_false_iff_ne]; exact fun q => b ((v5 a).mpr q), Bool.and_false]
            rfl
        refine wk_istore (i := 5) (lo' := [(0, _), (1, _), (2, _), (3, _), (4, _), (5, _)]) (q := 209) dX7_readGuest_207 rfl (by decide) rfl ?_
        refine wk_iload (i := 5) (q := 211) dX7_readGuest_209 rfl rfl ?_
        refine wk_bipush (q := 213) dX7_readGuest_211 rfl (by decide +kernel) ?_
        refine wk_icmp_eq (t := 237) (q := 216) dX7_readGuest_213 rfl rfl (by omega) (by omega) (fun hc213 => ?_) (fun hc213 => ?_)
        · refine wk_iconst (q := 238) dX7_readGuest_237 rfl ?_
          refine wk_zret dX7_readGuest_238 rfl (by omega) ⟨Nat.le_refl _, Nat.le_refl _⟩ rfl ?_
          first
          | exact fail (v2 (by omega))
          | exact fail (v3 (by omega) (ua.mp (by omega)) (by omega))
        · refine wk_iload (i := 5) (q := 218) dX7_readGuest_216 rfl rfl ?_
          refine wk_iconst (q := 219) dX7_readGuest_218 rfl ?_
          refine wk_icmp_ne (t := 239) (q := 222) dX7_readGuest_219 rfl rfl (by omega) (by omega) (fun hc219 => ?_) (fun hc219 => ?_)
          · refine wk_iload_n (i := 3) (q := 240) dX7_readGuest_239 rfl rfl rfl ?_
            refine wk_if_ne (t := 249) (q := 243) dX7_readGuest_240 rfl rfl (by omega) (fun hc240 => ?_) (fun hc240 => ?_)
            · refine wk_iconst (q := 250) dX7_readGuest_249 rfl ?_
              refine wk_goto (t := 254) dX7_readGuest_250 rfl ?_
              have hs : sgB c e M (wOf c p) j = true := by
                rcases v1 with q | q | q
                · exact q
                · omega
                · have := ua.mpr q.2.1
                  omega
              first
                | exact nx _ hs (by omega) (w1' (by omega) (by omega)).symm
                | exact nx _ hs (by omega) (w0' (by omega) (by omega) (by omega)).symm
            · refine wk_iload (i := 5) (q := 245) dX7_readGuest_243 rfl rfl ?_
              refine wk_iconst (q := 246) dX7_readGuest_245 rfl ?_
              refine wk_icmp_eq (t := 253) (q := 249) dX7_readGuest_246 rfl rfl (by omega) (by omega) (fun hc246 => ?_) (fun hc246 => ?_)
              · refine wk_iconst (q := 254) dX7_readGuest_253 rfl ?_
                have hs : sgB c e M (wOf c p) j = true := by
                  rcases v1 with q | q | q
                  · exact q
                  · omega
                  · have := ua.mpr q.2.1
                    omega
                first
                  | exact nx _ hs (by omega) (w1' (by omega) (by omega)).symm
                  | exact nx _ hs (by omega) (w0' (by omega) (by omega) (by omega)).symm
              · refine wk_iconst (q := 250) dX7_readGuest_249 rfl ?_
                refine wk_goto (t := 254) dX7_readGuest_250 rfl ?_
                have hs : sgB c e M (wOf c p) j = true := by
                  rcases v1 with q | q | q
                  · exact q
                  · omega
                  · have := ua.mpr q.2.1
                    omega
                first
                  | exact nx _ hs (by omega) (w1' (by omega) (by omega)).symm
                  | exact nx _ hs (by omega) (w0' (by omega) (by omega) (by omega)).symm
          · refine wk_iload_n (i := 3) (q := 223) dX7_readGuest_222 rfl rfl rfl ?_
            refine wk_if_ne (t := 239) (q := 226) dX7_readGuest_223 rfl rfl (by omega) (fun hc223 => ?_) (fun hc223 => ?_)
            · refine wk_iload_n (i := 3) (q := 240) dX7_readGuest_239 rfl rfl rfl ?_
              refine wk_if_ne (t := 249) (q := 243) dX7_readGuest_240 rfl rfl (by omega) (fun hc240 => ?_) (fun hc240 => ?_)
              · refine wk_iconst (q := 250) dX7_readGuest_249 rfl ?_
                refine wk_goto (t := 254) dX7_readGuest_250 rfl ?_
                have hs : sgB c e M (wOf c p) j = true := by
                  rcases v1 with q | q | q
                  · exact q
                  · omega
                  · have := ua.mpr q.2.1
                    omega
                first
                  | exact nx _ hs (by omega) (w1' (by omega) (by omega)).symm
                  | exact nx _ hs (by omega) (w0' (by omega) (by omega) (by omega)).symm
              · refine wk_iload (i := 5) (q := 245) dX7_readGuest_243 rfl rfl ?_
                refine wk_iconst (q := 246) dX7_readGuest_245 rfl ?_
                refine wk_icmp_eq (t := 253) (q := 249) dX7_readGuest_246 rfl rfl (by omega) (by omega) (fun hc246 => ?_) (fun hc246 => ?_)
                · refine wk_iconst (q := 254) dX7_readGuest_253 rfl ?_
                  have hs : sgB c e M (wOf c p) j = true := by
                    rcases v1 with q | q | q
                    · exact q
                    · omega
                    · have := ua.mpr q.2.1
                      omega
                  first
                    | exact nx _ hs (by omega) (w1' (by omega) (by omega)).symm
                    | exact nx _ hs (by omega) (w0' (by omega) (by omega) (by omega)).symm
                · refine wk_iconst (q := 250) dX7_readGuest_249 rfl ?_
                  refine wk_goto (t := 254) dX7_readGuest_250 rfl ?_
                  have hs : sgB c e M (wOf c p) j = true := by
                    rcases v1 with q | q | q
                    · exact q
                    · omega
                    · have := ua.mpr q.2.1
                      omega
                  first
                    | exact nx _ hs (by omega) (w1' (by omega) (by omega)).symm
                    | exact nx _ hs (by omega) (w0' (by omega) (by omega) (by omega)).symm
            · refine wk_iload (i := 4) (q := 228) dX7_readGuest_226 rfl rfl ?_
              refine wk_aload_n (i := 0) (q := 229) dX7_readGuest_228 rfl rfl rfl ?_
              refine wk_getI (fi := 21) (q := 232) dX7_readGuest_229 rfl fl_X7_158 rfl rfl hM.ob ?_
              refine wk_iconst (q := 233) dX7_readGuest_232 rfl ?_
              refine wk_isub (q := 234) dX7_readGuest_233 rfl ?_
              refine wk_icmp_ne (t := 239) (q := 237) dX7_readGuest_234 rfl rfl (by omega) (by omega) (fun hc234 => ?_) (fun hc234 => ?_)
              · refine wk_iload_n (i := 3) (q := 240) dX7_readGuest_239 rfl rfl rfl ?_
                refine wk_if_ne (t := 249) (q := 243) dX7_readGuest_240 rfl rfl (by omega) (fun hc240 => ?_) (fun hc240 => ?_)
                · refine wk_iconst (q := 250) dX7_readGuest_249 rfl ?_
                  refine wk_goto (t := 254) dX7_readGuest_250 rfl ?_
                  have hs : sgB c e M (wOf c p) j = true := by
                    rcases v1 with q | q | q
                    · exact q
                    · omega
                    · have := ua.mpr q.2.1
                      omega
                  first
                    | exact nx _ hs (by omega) (w1' (by omega) (by omega)).symm
                    | exact nx _ hs (by omega) (w0' (by omega) (by omega) (by omega)).symm
                · refine wk_iload (i := 5) (q := 245) dX7_readGuest_243 rfl rfl ?_
                  refine wk_iconst (q := 246) dX7_readGuest_245 rfl ?_
                  refine wk_icmp_eq (t := 253) (q := 249) dX7_readGuest_246 rfl rfl (by omega) (by omega) (fun hc246 => ?_) (fun hc246 => ?_)
                  · refine wk_iconst (q := 254) dX7_readGuest_253 rfl ?_
                    have hs : sgB c e M (wOf c p) j = true := by
                      rcases v1 with q | q | q
                      · exact q
                      · omega
                      · have := ua.mpr q.2.1
                        omega
                    first
                      | exact nx _ hs (by omega) (w1' (by omega) (by omega)).symm
                      | exact nx _ hs (by omega) (w0' (by omega) (by omega) (by omega)).symm
                  · refine wk_iconst (q := 250) dX7_readGuest_249 rfl ?_
                    refine wk_goto (t := 254) dX7_readGuest_250 rfl ?_
                    have hs : sgB c e M (wOf c p) j = true := by
                      rcases v1 with q | q | q
                      · exact q
                      · omega
                      · have := ua.mpr q.2.1
                        omega
                    first
                      | exact nx _ hs (by omega) (w1' (by omega) (by omega)).symm
                      | exact nx _ hs (by omega) (w0' (by omega) (by omega) (by omega)).symm
              · refine wk_iconst (q := 238) dX7_readGuest_237 rfl ?_
                refine wk_zret dX7_readGuest_238 rfl (by omega) ⟨Nat.le_refl _, Nat.le_refl _⟩ rfl ?_
                first
                | exact fail (v2 (by omega))
                | exact fail (v3 (by omega) (ua.mp (by omega)) (by omega))
      refine wk_iload (i := 4) (q := 177) dX7_readGuest_175 rfl rfl ?_
      refine wk_aload_n (i := 0) (q := 178) dX7_readGuest_177 rfl rfl rfl ?_
      refine wk_getI (fi := 21) (q := 181) dX7_readGuest_178 rfl fl_X7_158 rfl rfl hM.ob ?_
      refine wk_icmp_ge (t := 285) (q := 184) dX7_readGuest_181 rfl rfl (by omega) (by omega) (fun hc181 => ?_) (fun hc181 => ?_)
      · omega
      · refine wk_aload_n (i := 0) (q := 185) dX7_readGuest_184 rfl rfl rfl ?_
        refine wk_bipush (q := 187) dX7_readGuest_185 rfl (by decide +kernel) ?_
        refine wk_iload_n (i := 1) (q := 188) dX7_readGuest_187 rfl rfl rfl ?_
        refine wk_cP2 (q := 191) dX7_readGuest_188 rfl vl_X7_170 ⟨_, _, rfl⟩ hM.ob (ct_X7_isCode hM f1 (by omega)) (qRo_m ok_X7_isCode (by decide) (Nat.le_refl _) (Nat.le_refl _)) (Nat.le_of_ble_eq_true rfl) (fun v188 hv188 => ?_)
        rcases hv188 with ⟨rfl, hv188⟩ | ⟨rfl, hv188⟩
        · refine wk_if_eq (t := 198) (q := 194) dX7_readGuest_191 rfl rfl (by omega) (fun hq => absurd hq (by decide)) (fun _ => ?_)
          refine wk_iconst (q := 195) dX7_readGuest_194 rfl ?_
          refine wk_goto (t := 207) dX7_readGuest_195 rfl ?_
          skip
          first
            | (have sf : allX c (wOf c p) j = true → j + 1 = M → sgB c e M (wOf c p) j = false := fun a b => decide_eq_false (fun q => by
                 rcases q with q | q
                 · omega
                 · exact q.2.2 ⟨b, a⟩)
               refine at207 (-1) ?_ (fun q => by omega) (fun _ a b => sf a b) (fun _ => by unfold wv; rw [if_pos hv188.2]) (fun _ => ⟨fun _ => hv188.2, fun _ => rfl⟩) (by omega) _ rfl
               by_cases q : j + 1 = M ∧ allX c (wOf c p) j = true
               · exact Or.inr (Or.inr ⟨rfl, q.2, q.1⟩)
               · exact Or.inl (decide_eq_true (Or.inr ⟨hv188.1, hv188.2, q⟩)))
            | (by_cases dg : dgOk c e (wOf c p + j) 0 9
               · rw [if_pos dg] at hv204
                 refine at207 v204 (Or.inl (decide_eq_true (Or.inl dg))) (fun q => by omega) (fun q => by omega) (fun _ => by unfold wv; rw [if_neg (by omega)]; exact hv204) (fun _ => ⟨fun q => by omega, fun q => by omega⟩) (by omega) _ rfl
               · rw [if_neg dg] at hv204
                 refine at207 v204 (Or.inr (Or.inl hv204)) (fun _ => decide_eq_false (fun q => by
                   rcases q with q | q
                   · exact dg q
                   · exact hv188 ⟨q.1, q.2.1⟩)) (fun q => by omega) (fun q => absurd hv204 q) (fun q => absurd hv204 q) (by omega) _ rfl)
        · refine wk_if_eq (t := 198) (q := 194) dX7_readGuest_191 rfl rfl (by omega) (fun _ => ?_) (fun hq => absurd hq (by decide))
          refine wk_aload_n (i := 0) (q := 199) dX7_readGuest_198 rfl rfl rfl ?_
          refine wk_aload_n (i := 0) (q := 200) dX7_readGuest_199 rfl rfl rfl ?_
          refine wk_getI (fi := 19) (q := 203) dX7_readGuest_200 rfl fl_X7_131 rfl rfl hM.ob ?_
          refine wk_iload_n (i := 1) (q := 204) dX7_readGuest_203 rfl rfl rfl ?_
          rw [e19]
          refine wk_cP2 (q := 207) dX7_readGuest_204 rfl vl_X7_174 ⟨_, _, rfl⟩ hM.ob (ct_X7_digitAt hM f1) (qRo_m ok_X7_digitAt (by decide) (Nat.le_refl _) (Nat.le_refl _)) (Nat.le_of_ble_eq_true rfl) (fun v204 hv204 => ?_)
          skip
          first
            | (have sf : allX c (wOf c p) j = true → j + 1 = M → sgB c e M (wOf c p) j = false := fun a b => decide_eq_false (fun q => by
                 rcases q with q | q
                 · omega
                 · exact q.2.2 ⟨b, a⟩)
               refine at207 (-1) ?_ (fun q => by omega) (fun _ a b => sf a b) (fun _ => by unfold wv; rw [if_pos hv188.2]) (fun _ => ⟨fun _ => hv188.2, fun _ => rfl⟩) (by omega) _ rfl
               by_cases q : j + 1 = M ∧ allX c (wOf c p) j = true
               · exact Or.inr (Or.inr ⟨rfl, q.2, q.1⟩)
               · exact Or.inl (decide_eq_true (Or.inr ⟨hv188.1, hv188.2, q⟩)))
            | (by_cases dg : dgOk c e (wOf c p + j) 0 9
               · rw [if_pos dg] at hv204
                 refine at207 v204 (Or.inl (decide_eq_true (Or.inl dg))) (fun q => by omega) (fun q => by omega) (fun _ => by unfold wv; rw [if_neg (by omega)]; exact hv204) (fun _ => ⟨fun q => by omega, fun q => by omega⟩) (by omega) _ rfl
               · rw [if_neg dg] at hv204
                 refine at207 v204 (Or.inr (Or.inl hv204)) (fun _ => decide_eq_false (fun q => by
                   rcases q with q | q
                   · exact dg q
                   · exact hv188 ⟨q.1, q.2.1⟩)) (fun q => by omega) (fun q => absurd hv204 q) (fun q => absurd hv204 q) (by omega) _ rfl)
  have at170 : ∀ w : Int, w = wOf c p → ltOk c e p → dgOk c e (p + 1) 0 9 → (c p = 112 → dgOk c e (p + 2) 0 9) → ∀ I1 : qI, txM I1 m k c e w → frK I m g I1 → I1 m 20 = g → I1 (m + 15) g = kdL c p → I1 (m + 16) g = c (p + 1) - 48 → I1 (m + 17) g = (if c p = 112 then c (p + 2) - 48 else 0) → Wk l E (qmo E 2 n 0 0 (qZ n sh (rdM L R m k c e ((gB c e M p).1 = 1) (gB c e M p).2 (gB c e M p).2 (fun I' => frK I m g I' ∧ I' m 20 = g + 1 ∧ gdM c M m p g I') (frH I m)))) mX7_readGuest 0 0 170
      [(0, .ref m), (1, .int (zI (100 * k + e))), (2, .int (zI g))] [] (n, sh, I1, L, R) := by
    intro w hw p1 p2 p3 I1 f1 f2 f20 d1 d2 d3
    subst hw
    refine wk_iconst (q := 171) dX7_readGuest_170 rfl ?_
    refine wk_istore_n (i := 3) (lo' := [(0, _), (1, _), (2, _), (3, _)]) (q := 172) dX7_readGuest_171 rfl rfl (by decide) rfl ?_
    refine wk_iconst (q := 173) dX7_readGuest_172 rfl ?_
    refine wk_istore (i := 4) (lo' := [(0, _), (1, _), (2, _), (3, _), (4, _)]) (q := 175) dX7_readGuest_173 rfl (by decide) rfl ?_
    exact loop p1 p2 p3 0 (Nat.zero_le _) rfl I1 (by rw [show wOf c p + ((0 : Nat) : Int) = wOf c p by omega]; exact f1) f2 f20 d1 d2 d3 (fun i hi => absurd hi (by omega))
  have kd2 : ltOk c e p → (kdL c p = 2 ↔ c p = 112) ∧ 0 ≤ kdL c p ∧ kdL c p ≤ 2 := fun q => by
    unfold kdL
    split
    · omega
    · split <;> omega
  have at115 : ltOk c e p → dgOk c e (p + 1) 0 9 → ∀ I1 : qI, txM I1 m k c e (p + 2) → frK I m g I1 → I1 m 20 = g → I1 (m + 15) g = kdL c p → I1 (m + 16) g = c (p + 1) - 48 → Wk l E (qmo E 2 n 0 0 (qZ n sh (rdM L R m k c e ((gB c e M p).1 = 1) (gB c e M p).2 (gB c e M p).2 (fun I' => frK I m g I' ∧ I' m 20 = g + 1 ∧ gdM c M m p g I') (frH I m)))) mX7_readGuest 0 0 115
      [(0, .ref m), (1, .int (zI (100 * k + e))), (2, .int (zI g))] [] (n, sh, I1, L, R) := by
    intro p1 p2 I1 f1 f2 f20 d1 d2
    have e19 := f1.2.1
    have kd3 := kd2 p1
    have f1' : txM (up I1 (m + 17) g 0) m k c e (p + 2) := f1.fr (fun i => up_na _ _ _ _ (by omega)) (up_na _ _ _ _ (by omega))
    refine wk_aload_n (i := 0) (q := 116) dX7_readGuest_115 rfl rfl rfl ?_
    refine wk_getR (fi := 26) (q := 119) dX7_readGuest_116 rfl fl_X7_58 rfl rfl hM.ob hM.r26 ?_
    refine wk_iload_n (i := 2) (q := 120) dX7_readGuest_119 rfl rfl rfl ?_
    refine wk_iconst (q := 121) dX7_readGuest_120 rfl ?_
    refine wk_iast (q := 122) dX7_readGuest_121 rfl hM.s26 (by omega) ?_
    refine wk_aload_n (i := 0) (q := 123) dX7_readGuest_122 rfl rfl rfl ?_
    refine wk_getR (fi := 24) (q := 126) dX7_readGuest_123 rfl fl_X7_52 rfl rfl hM.ob hM.r24 ?_
    refine wk_iload_n (i := 2) (q := 127) dX7_readGuest_126 rfl rfl rfl ?_
    refine wk_iald (q := 128) dX7_readGuest_127 rfl hM.s24 (by omega) ?_
    refine wk_iconst (q := 129) dX7_readGuest_128 rfl ?_
    rw [up_na _ _ _ _ (by omega), d1]
    refine wk_icmp_ne (t := 170) (q := 132) dX7_readGuest_129 rfl rfl (by omega) (by omega) (fun hc129 => ?_) (fun hc129 => ?_)
    · first
      | exact at170 (p + 2) (by unfold wOf; rw [if_neg (by omega)]) p1 p2 (fun q => by omega) _ f1' (fun b i q1 q2 q3 => by rw [up_off (by omega)]; exact f2 b i q1 q2 q3) (by rw [up_na _ _ _ _ (by omega)]; exact f20) (by rw [up_na _ _ _ _ (by omega)]; exact d1) (by rw [up_na _ _ _ _ (by omega)]; exact d2) (by rw [up_eq, if_neg (by omega)])
      | (have dg : dgOk c e (p + 2) 0 9 := by
           by_cases q : dgOk c e (p + 2) 0 9
           · exact q
           · rw [if_neg q] at hv143
             omega
         rw [if_pos dg] at hv143
         exact at170 (p + 3) (by unfold wOf; rw [if_pos (by omega)]) p1 p2 (fun _ => dg) _ (f1.up (fun i => by rw [up_na _ _ _ _ (by omega), up_na _ _ _ _ (by omega), up_na _ _ _ _ (by omega)]) (by rw [up_eq, up_na _ _ _ _ (by omega), up_na _ _ _ _ (by omega), e19]; omega) (by omega)) (fun b i q1 q2 q3 => by rw [up_off (by omega), up_off (by omega), up_off (by omega)]; exact f2 b i q1 q2 q3) (by rw [up_ni _ _ (by omega), up_na _ _ _ _ (by omega), up_na _ _ _ _ (by omega)]; exact f20) (by rw [up_na _ _ _ _ (by omega), up_na _ _ _ _ (by omega), up_na _ _ _ _ (by omega)]; exact d1) (by rw [up_na _ _ _ _ (by omega), up_na _ _ _ _ (by omega), up_na _ _ _ _ (by omega)]; exact d2) (by rw [up_na _ _ _ _ (by omega), up_eq, if_pos (by omega)]; exact hv143))
    · refine wk_aload_n (i := 0) (q := 133) dX7_readGuest_132 rfl rfl rfl ?_
      refine wk_getR (fi := 26) (q := 136) dX7_readGuest_133 rfl fl_X7_58 rfl rfl hM.ob hM.r26 ?_
      refine wk_iload_n (i := 2) (q := 137) dX7_readGuest_136 rfl rfl rfl ?_
      refine wk_aload_n (i := 0) (q := 138) dX7_readGuest_137 rfl rfl rfl ?_
      refine wk_aload_n (i := 0) (q := 139) dX7_readGuest_138 rfl rfl rfl ?_
      refine wk_getI (fi := 19) (q := 142) dX7_readGuest_139 rfl fl_X7_131 rfl rfl hM.ob ?_
      refine wk_iload_n (i := 1) (q := 143) dX7_readGuest_142 rfl rfl rfl ?_
      rw [up_na _ _ _ _ (by omega), e19]
      refine wk_cP2 (q := 146) dX7_readGuest_143 rfl vl_X7_174 ⟨_, _, rfl⟩ hM.ob (ct_X7_digitAt hM f1') (qRo_m ok_X7_digitAt (by decide) (Nat.le_refl _) (Nat.le_refl _)) (Nat.le_of_ble_eq_true rfl) (fun v143 hv143 => ?_)
      refine wk_iast (q := 147) dX7_readGuest_146 rfl hM.s26 (by omega) ?_
      refine wk_aload_n (i := 0) (q := 148) dX7_readGuest_147 rfl rfl rfl ?_
      refine wk_getR (fi := 26) (q := 151) dX7_readGuest_148 rfl fl_X7_58 rfl rfl hM.ob hM.r26 ?_
      refine wk_iload_n (i := 2) (q := 152) dX7_readGuest_151 rfl rfl rfl ?_
      refine wk_iald (q := 153) dX7_readGuest_152 rfl hM.s26 (by omega) ?_
      refine wk_bipush (q := 155) dX7_readGuest_153 rfl (by decide +kernel) ?_
      rw [up_eq]
      have hb : -9 ≤ v143 ∧ v143 ≤ 9 := by
        rw [hv143]
        split <;> omega
      refine wk_icmp_ne (t := 160) (q := 158) dX7_readGuest_155 rfl rfl (by omega) (by omega) (fun hc155 => ?_) (fun hc155 => ?_)
      · refine wk_aload_n (i := 0) (q := 161) dX7_readGuest_160 rfl rfl rfl ?_
        refine wk_dup (q := 162) dX7_readGuest_161 rfl rfl ?_
        refine wk_getI (fi := 19) (q := 165) dX7_readGuest_162 rfl fl_X7_131 rfl rfl hM.ob ?_
        refine wk_iconst (q := 166) dX7_readGuest_165 rfl ?_
        refine wk_iadd (q := 167) dX7_readGuest_166 rfl ?_
        refine wk_putI (fi := 19) (q := 170) dX7_readGuest_167 rfl fl_X7_131 fw_7_19 rfl rfl hM.ob ?_
        first
        | exact at170 (p + 2) (by unfold wOf; rw [if_neg (by omega)]) p1 p2 (fun q => by omega) _ f1' (fun b i q1 q2 q3 => by rw [up_off (by omega)]; exact f2 b i q1 q2 q3) (by rw [up_na _ _ _ _ (by omega)]; exact f20) (by rw [up_na _ _ _ _ (by omega)]; exact d1) (by rw [up_na _ _ _ _ (by omega)]; exact d2) (by rw [up_eq, if_neg (by omega)])
        | (have dg : dgOk c e (p + 2) 0 9 := by
             by_cases q : dgOk c e (p + 2) 0 9
             · exact q
             · rw [if_neg q] at hv143
               omega
           rw [if_pos dg] at hv143
           exact at170 (p + 3) (by unfold wOf; rw [if_pos (by omega)]) p1 p2 (fun _ => dg) _ (f1.up (fun i => by rw [up_na _ _ _ _ (by omega), up_na _ _ _ _ (by omega), up_na _ _ _ _ (by omega)]) (by rw [up_eq, up_na _ _ _ _ (by omega), up_na _ _ _ _ (by omega), e19]; omega) (by omega)) (fun b i q1 q2 q3 => by rw [up_off (by omega), up_off (by omega), up_off (by omega)]; exact f2 b i q1 q2 q3) (by rw [up_ni _ _ (by omega), up_na _ _ _ _ (by omega), up_na _ _ _ _ (by omega)]; exact f20) (by rw [up_na _ _ _ _ (by omega), up_na _ _ _ _ (by omega), up_na _ _ _ _ (by omega)]; exact d1) (by rw [up_na _ _ _ _ (by omega), up_na _ _ _ _ (by omega), up_na _ _ _ _ (by omega)]; exact d2) (by rw [up_na _ _ _ _ (by omega), up_eq, if_pos (by omega)]; exact hv143))
      · refine wk_iconst (q := 159) dX7_readGuest_158 rfl ?_
        refine wk_zret dX7_readGuest_159 rfl (by omega) ⟨Nat.le_refl _, Nat.le_refl _⟩ rfl ?_
        have dg : ¬ dgOk c e (p + 2) 0 9 := fun q => by
          rw [if_pos q] at hv143
          omega
        exact bad _ _ (gB_3 p1 p2 (by omega) dg) (f1'.fr (fun i => up_na _ _ _ _ (by omega)) (up_na _ _ _ _ (by omega))) (fun b i q1 q2 q3 => by rw [up_off (by omega), up_off (by omega)]; exact f2 b i q1 q2 q3)
  have at77 : ltOk c e p → ∀ I1 : qI, txM I1 m k c e (p + 1) → frK I m g I1 → I1 m 20 = g → I1 (m + 15) g = kdL c p → Wk l E (qmo E 2 n 0 0 (qZ n sh (rdM L R m k c e ((gB c e M p).1 = 1) (gB c e M p).2 (gB c e M p).2 (fun I' => frK I m g I' ∧ I' m 20 = g + 1 ∧ gdM c M m p g I') (frH I m)))) mX7_readGuest 0 0 77
      [(0, .ref m), (1, .int (zI (100 * k + e))), (2, .int (zI g))] [] (n, sh, I1, L, R) := by
    intro p1 I1 f1 f2 f20 d1
    have e19 := f1.2.1
    refine wk_aload_n (i := 0) (q := 78) dX7_readGuest_77 rfl rfl rfl ?_
    refine wk_getR (fi := 25) (q := 81) dX7_readGuest_78 rfl fl_X7_55 rfl rfl hM.ob hM.r25 ?_
    refine wk_iload_n (i := 2) (q := 82) dX7_readGuest_81 rfl rfl rfl ?_
    refine wk_aload_n (i := 0) (q := 83) dX7_readGuest_82 rfl rfl rfl ?_
    refine wk_aload_n (i := 0) (q := 84) dX7_readGuest_83 rfl rfl rfl ?_
    refine wk_getI (fi := 19) (q := 87) dX7_readGuest_84 rfl fl_X7_131 rfl rfl hM.ob ?_
    refine wk_iload_n (i := 1) (q := 88) dX7_readGuest_87 rfl rfl rfl ?_
    rw [e19]
    refine wk_cP2 (q := 91) dX7_readGuest_88 rfl vl_X7_174 ⟨_, _, rfl⟩ hM.ob (ct_X7_digitAt hM f1) (qRo_m ok_X7_digitAt (by decide) (Nat.le_refl _) (Nat.le_refl _)) (Nat.le_of_ble_eq_true rfl) (fun v88 hv88 => ?_)
    refine wk_iast (q := 92) dX7_readGuest_91 rfl hM.s25 (by omega) ?_
    refine wk_aload_n (i := 0) (q := 93) dX7_readGuest_92 rfl rfl rfl ?_
    refine wk_getR (fi := 25) (q := 96) dX7_readGuest_93 rfl fl_X7_55 rfl rfl hM.ob hM.r25 ?_
    refine wk_iload_n (i := 2) (q := 97) dX7_readGuest_96 rfl rfl rfl ?_
    refine wk_iald (q := 98) dX7_readGuest_97 rfl hM.s25 (by omega) ?_
    refine wk_bipush (q := 100) dX7_readGuest_98 rfl (by decide +kernel) ?_
    rw [up_eq]
    have hb : -9 ≤ v88 ∧ v88 ≤ 9 := by
      rw [hv88]
      split <;> omega
    refine wk_icmp_ne (t := 105) (q := 103) dX7_readGuest_100 rfl rfl (by omega) (by omega) (fun hc100 => ?_) (fun hc100 => ?_)
    · refine wk_aload_n (i := 0) (q := 106) dX7_readGuest_105 rfl rfl rfl ?_
      refine wk_dup (q := 107) dX7_readGuest_106 rfl rfl ?_
      refine wk_getI (fi := 19) (q := 110) dX7_readGuest_107 rfl fl_X7_131 rfl rfl hM.ob ?_
      refine wk_iconst (q := 111) dX7_readGuest_110 rfl ?_
      refine wk_iadd (q := 112) dX7_readGuest_111 rfl ?_
      refine wk_putI (fi := 19) (q := 115) dX7_readGuest_112 rfl fl_X7_131 fw_7_19 rfl rfl hM.ob ?_
      have dg : dgOk c e (p + 1) 0 9 := by
        by_cases q : dgOk c e (p + 1) 0 9
        · exact q
        · rw [if_neg q] at hv88
          omega
      rw [if_pos dg] at hv88
      exact at115 p1 dg _ (f1.up (fun i => by rw [up_na _ _ _ _ (by omega), up_na _ _ _ _ (by omega)]) (by rw [up_eq, up_na _ _ _ _ (by omega), e19]; omega) (by omega)) (fun b i q1 q2 q3 => by rw [up_off (by omega), up_off (by omega)]; exact f2 b i q1 q2 q3) (by rw [up_ni _ _ (by omega), up_na _ _ _ _ (by omega)]; exact f20) (by rw [up_na _ _ _ _ (by omega), up_na _ _ _ _ (by omega)]; exact d1) (by rw [up_na _ _ _ _ (by omega), up_eq]; exact hv88)
    · refine wk_iconst (q := 104) dX7_readGuest_103 rfl ?_
      refine wk_zret dX7_readGuest_104 rfl (by omega) ⟨Nat.le_refl _, Nat.le_refl _⟩ rfl ?_
      have dg : ¬ dgOk c e (p + 1) 0 9 := fun q => by
        rw [if_pos q] at hv88
        omega
      exact bad _ _ (gB_2 p1 dg) (f1.fr (fun i => up_na _ _ _ _ (by omega)) (up_na _ _ _ _ (by omega))) (fun b i q1 q2 q3 => by rw [up_off (by omega)]; exact f2 b i q1 q2 q3)
  have at67 : ltOk c e p → ∀ v : Int, v = kdL c p → Wk l E (qmo E 2 n 0 0 (qZ n sh (rdM L R m k c e ((gB c e M p).1 = 1) (gB c e M p).2 (gB c e M p).2 (fun I' => frK I m g I' ∧ I' m 20 = g + 1 ∧ gdM c M m p g I') (frH I m)))) mX7_readGuest 0 0 67
      [(0, .ref m), (1, .int (zI (100 * k + e))), (2, .int (zI g))] [] (n, sh, up I (m + 15) g v, L, R) := by
    intro p1 v hv
    refine wk_aload_n (i := 0) (q := 68) dX7_readGuest_67 rfl rfl rfl ?_
    refine wk_dup (q := 69) dX7_readGuest_68 rfl rfl ?_
    refine wk_getI (fi := 19) (q := 72) dX7_readGuest_69 rfl fl_X7_131 rfl rfl hM.ob ?_
    refine wk_iconst (q := 73) dX7_readGuest_72 rfl ?_
    refine wk_iadd (q := 74) dX7_readGuest_73 rfl ?_
    refine wk_putI (fi := 19) (q := 77) dX7_readGuest_74 rfl fl_X7_131 fw_7_19 rfl rfl hM.ob ?_
    exact at77 p1 _ (h.up (fun i => by rw [up_na _ _ _ _ (by omega), up_na _ _ _ _ (by omega)]) (by rw [up_eq, up_na _ _ _ _ (by omega), h2]; omega) (by omega)) (fun b i q1 q2 q3 => by rw [up_off (by omega), up_off (by omega)]) (by rw [up_ni _ _ (by omega), up_na _ _ _ _ (by omega)]; exact h20) (by rw [up_na _ _ _ _ (by omega), up_eq]; exact hv)
  refine Ct.of (lo := [(0, _), (1, _)]) ok_X7_readGuest (Nat.le_of_ble_eq_true rfl) rfl ?_
  refine wk_aload_n (i := 0) (q := 1) dX7_readGuest_0 rfl rfl rfl ?_
  refine wk_getI (fi := 20) (q := 4) dX7_readGuest_1 rfl fl_X7_155 rfl rfl hM.ob ?_
  rw [h20]
  refine wk_istore_n (i := 2) (lo' := [(0, _), (1, _), (2, _)]) (q := 5) dX7_readGuest_4 rfl rfl (by decide) rfl ?_
  refine wk_aload_n (i := 0) (q := 6) dX7_readGuest_5 rfl rfl rfl ?_
  refine wk_bipush (q := 8) dX7_readGuest_6 rfl (by decide +kernel) ?_
  refine wk_iload_n (i := 1) (q := 9) dX7_readGuest_8 rfl rfl rfl ?_
  refine wk_cP2 (q := 12) dX7_readGuest_9 rfl vl_X7_170 ⟨_, _, rfl⟩ hM.ob (ct_X7_isCode hM h (by omega)) (qRo_m ok_X7_isCode (by decide) (Nat.le_refl _) (Nat.le_refl _)) (Nat.le_of_ble_eq_true rfl) (fun v9 hv9 => ?_)
  rcases hv9 with ⟨rfl, hv9⟩ | ⟨rfl, hv9⟩
  · refine wk_if_eq (t := 25) (q := 15) dX7_readGuest_12 rfl rfl (by omega) (fun hq => absurd hq (by decide)) (fun _ => ?_)
    refine wk_aload_n (i := 0) (q := 16) dX7_readGuest_15 rfl rfl rfl ?_
    refine wk_getR (fi := 24) (q := 19) dX7_readGuest_16 rfl fl_X7_52 rfl rfl hM.ob hM.r24 ?_
    refine wk_iload_n (i := 2) (q := 20) dX7_readGuest_19 rfl rfl rfl ?_
    refine wk_iconst (q := 21) dX7_readGuest_20 rfl ?_
    refine wk_iast (q := 22) dX7_readGuest_21 rfl hM.s24 (by omega) ?_
    refine wk_goto (t := 67) dX7_readGuest_22 rfl ?_
    first
    | exact at67 (by omega) 0 (by unfold kdL; rw [if_pos (by omega)])
    | exact at67 (by omega) 1 (by unfold kdL; rw [if_neg (by omega), if_pos (by omega)])
    | exact at67 (by omega) 2 (by unfold kdL; rw [if_neg (by omega), if_neg (by omega)])
  · refine wk_if_eq (t := 25) (q := 15) dX7_readGuest_12 rfl rfl (by omega) (fun _ => ?_) (fun hq => absurd hq (by decide))
    refine wk_aload_n (i := 0) (q := 26) dX7_readGuest_25 rfl rfl rfl ?_
    refine wk_bipush (q := 28) dX7_readGuest_26 rfl (by decide +kernel) ?_
    refine wk_iload_n (i := 1) (q := 29) dX7_readGuest_28 rfl rfl rfl ?_
    refine wk_cP2 (q := 32) dX7_readGuest_29 rfl vl_X7_170 ⟨_, _, rfl⟩ hM.ob (ct_X7_isCode hM h (by omega)) (qRo_m ok_X7_isCode (by decide) (Nat.le_refl _) (Nat.le_refl _)) (Nat.le_of_ble_eq_true rfl) (fun v29 hv29 => ?_)
    rcases hv29 with ⟨rfl, hv29⟩ | ⟨rfl, hv29⟩
    · refine wk_if_eq (t := 45) (q := 35) dX7_readGuest_32 rfl rfl (by omega) (fun hq => absurd hq (by decide)) (fun _ => ?_)
      refine wk_aload_n (i := 0) (q := 36) dX7_readGuest_35 rfl rfl rfl ?_
      refine wk_getR (fi := 24) (q := 39) dX7_readGuest_36 rfl fl_X7_52 rfl rfl hM.ob hM.r24 ?_
      refine wk_iload_n (i := 2) (q := 40) dX7_readGuest_39 rfl rfl rfl ?_
      refine wk_iconst (q := 41) dX7_readGuest_40 rfl ?_
      refine wk_iast (q := 42) dX7_readGuest_41 rfl hM.s24 (by omega) ?_
      refine wk_goto (t := 67) dX7_readGuest_42 rfl ?_
      first
      | exact at67 (by omega) 0 (by unfold kdL; rw [if_pos (by omega)])
      | exact at67 (by omega) 1 (by unfold kdL; rw [if_neg (by omega), if_pos (by omega)])
      | exact at67 (by omega) 2 (by unfold kdL; rw [if_neg (by omega), if_neg (by omega)])
    · refine wk_if_eq (t := 45) (q := 35) dX7_readGuest_32 rfl rfl (by omega) (fun _ => ?_) (fun hq => absurd hq (by decide))
      refine wk_aload_n (i := 0) (q := 46) dX7_readGuest_45 rfl rfl rfl ?_
      refine wk_bipush (q := 48) dX7_readGuest_46 rfl (by decide +kernel) ?_
      refine wk_iload_n (i := 1) (q := 49) dX7_readGuest_48 rfl rfl rfl ?_
      refine wk_cP2 (q := 52) dX7_readGuest_49 rfl vl_X7_170 ⟨_, _, rfl⟩ hM.ob (ct_X7_isCode hM h (by omega)) (qRo_m ok_X7_isCode (by decide) (Nat.le_refl _) (Nat.le_refl _)) (Nat.le_of_ble_eq_true rfl) (fun v49 hv49 => ?_)
      rcases hv49 with ⟨rfl, hv49⟩ | ⟨rfl, hv49⟩
      · refine wk_if_eq (t := 65) (q := 55) dX7_readGuest_52 rfl rfl (by omega) (fun hq => absurd hq (by decide)) (fun _ => ?_)
        refine wk_aload_n (i := 0) (q := 56) dX7_readGuest_55 rfl rfl rfl ?_
        refine wk_getR (fi := 24) (q := 59) dX7_readGuest_56 rfl fl_X7_52 rfl rfl hM.ob hM.r24 ?_
        refine wk_iload_n (i := 2) (q := 60) dX7_readGuest_59 rfl rfl rfl ?_
        refine wk_iconst (q := 61) dX7_readGuest_60 rfl ?_
        refine wk_iast (q := 62) dX7_readGuest_61 rfl hM.s24 (by omega) ?_
        refine wk_goto (t := 67) dX7_readGuest_62 rfl ?_
        first
        | exact at67 (by omega) 0 (by unfold kdL; rw [if_pos (by omega)])
        | exact at67 (by omega) 1 (by unfold kdL; rw [if_neg (by omega), if_pos (by omega)])
        | exact at67 (by omega) 2 (by unfold kdL; rw [if_neg (by omega), if_neg (by omega)])
      · refine wk_if_eq (t := 65) (q := 55) dX7_readGuest_52 rfl rfl (by omega) (fun _ => ?_) (fun hq => absurd hq (by decide))
        refine wk_iconst (q := 66) dX7_readGuest_65 rfl ?_
        refine wk_zret dX7_readGuest_66 rfl (by omega) ⟨Nat.le_refl _, Nat.le_refl _⟩ rfl ?_
        exact bad _ _ (gB_1 (fun q => by omega)) h (fun _ _ _ _ _ => rfl)
end TEXT5
