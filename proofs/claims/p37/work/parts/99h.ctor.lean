/-! CONSTRUCTORS that make arrays alone -/
theorem qZr.up1 {B : Nat} {I L : qI} {R : qR} {n : Nat} (h : qZr (B + n) I L R) : qZr (B + (n + 1)) I L R := fun b i q => h b i (by omega)
theorem qZr.upA {B : Nat} {I L : qI} {R : qR} {n z : Nat} (h : qZr (B + n) I L R) : qZr (B + (n + (1 + z))) I L (rwR R (B + n) z) := fun b i q => by
  rw [rwR_ne (by omega)]
  exact h b i (by omega)
theorem qZr.upI {B a : Nat} {I L : qI} {R : qR} {i v : Int} (h : qZr B I L R) (ha : a < B) : qZr B (up I a i v) L R := fun b x q => by
  rw [up_na _ _ _ _ (by omega)]
  exact h b x q
theorem qZr.upR {B a : Nat} {I L : qI} {R : qR} {i : Int} {v : Nat} (h : qZr B I L R) (ha : a < B) : qZr B I L (up R a i v) := fun b x q => by
  rw [up_na _ _ _ _ (by omega)]
  exact h b x q
theorem isC.shA1 {b n : Nat} {sh : qSh} {a kd y z w : Nat} (h : isC b n sh a kd y) : isC b (n + (1 + z)) (shA sh (b + n) z w) a kd y :=
  ⟨h.1, by have := h.2.1; omega, by unfold shA; rw [if_neg (by have := h.2.1; omega), if_neg (by have := h.2.1; omega)]; exact h.2.2.1, h.2.2.2⟩
theorem up_e2 {α : Type} {f : Nat → Int → α} {a b : Nat} {i j : Int} {v : α} (h : b = a ∧ j = i) : up f a i v b j = v := if_pos h
theorem rwR_i2 {R : qR} {a b z : Nat} {i : Int} (hb : b = a) (h : 0 ≤ i ∧ i < (z : Int)) : rwR R a z b i = a + 1 + i.toNat := if_pos ⟨hb, h⟩
section CTOR
variable {l : Launch} {E : qEv} {n : Nat} {sh : qSh} {I L : qI} {R : qR}
theorem ct_X5_init {o : Nat} (hb : 0 < E.2.2) (ho : isC E.2.2 n sh o 9 0) (hn : E.2.2 + n = o + 1) (hz : qZr (E.2.2 + n) I L R) :
    Ct l E 1 mX5_init [.ref o] (n, sh, I, L, R) 13 82 (fun r S' => r = none ∧ ∃ sh' R', S' = (n + 13, sh', I, L, R') ∧ qTold E.2.2 (n + 13) sh' R' o ∧ (∀ b, b < o + 1 → sh' b = sh b) ∧ ∀ b i, ¬ (o ≤ b ∧ b < o + 14) → R' b i = R b i) := by
  refine Ct.of (lo := [(0, _)]) ok_X5_init (Nat.le_of_ble_eq_true rfl) rfl ?_
  have ho0 := ho
  have ho1 := ho.1
  refine wk_aload_n (i := 0) (q := 1) dX5_init_0 rfl rfl rfl ?_
  refine wk_obj (q := 4) dX5_init_1 rfl (qtb_in 44 (by decide +kernel) (by decide +kernel)) (qtb_in 35 (by decide +kernel) (by decide +kernel)) (qtb_in 36 (by decide +kernel) (by decide +kernel)) (Nat.le_of_ble_eq_true rfl) (Nat.le_of_ble_eq_true rfl) ?_
  refine wk_aload_n (i := 0) (q := 5) dX5_init_4 rfl rfl rfl ?_
  refine wk_bipush (q := 7) dX5_init_5 rfl (by decide +kernel) ?_
  refine wk_newI (z := 6) (q := 9) dX5_init_7 rfl (qtb_in 94 (by decide +kernel) (by decide +kernel)) rfl (by decide) hz (Nat.le_of_ble_eq_true rfl) (Nat.le_of_ble_eq_true rfl) ?_
  have hz := hz.up1
  have ho := ho.sh1 (v := (0, 6))
  refine wk_putF (fi := 0) (q := 12) dX5_init_9 rfl fl_X5_9 ⟨_, _, _, rfl, rfl, rfl⟩ rfl rfl (by omega) rfl ho ?_
  have hz := hz.upR (i := 0) (v := E.2.2 + n) (show o < _ by omega)
  refine wk_aload_n (i := 0) (q := 13) dX5_init_12 rfl rfl rfl ?_
  refine wk_bipush (q := 15) dX5_init_13 rfl (by decide +kernel) ?_
  refine wk_newI (z := 6) (q := 17) dX5_init_15 rfl (qtb_in 94 (by decide +kernel) (by decide +kernel)) rfl (by decide) hz (Nat.le_of_ble_eq_true rfl) (Nat.le_of_ble_eq_true rfl) ?_
  have hz := hz.up1
  have ho := ho.sh1 (v := (0, 6))
  refine wk_putF (fi := 1) (q := 20) dX5_init_17 rfl fl_X5_15 ⟨_, _, _, rfl, rfl, rfl⟩ rfl rfl (by omega) rfl ho ?_
  have hz := hz.upR (i := 1) (v := E.2.2 + (n + 1)) (show o < _ by omega)
  refine wk_aload_n (i := 0) (q := 21) dX5_init_20 rfl rfl rfl ?_
  refine wk_bipush (q := 23) dX5_init_21 rfl (by decide +kernel) ?_
  refine wk_newI (z := 7) (q := 25) dX5_init_23 rfl (qtb_in 94 (by decide +kernel) (by decide +kernel)) rfl (by decide) hz (Nat.le_of_ble_eq_true rfl) (Nat.le_of_ble_eq_true rfl) ?_
  have hz := hz.up1
  have ho := ho.sh1 (v := (0, 7))
  refine wk_putF (fi := 2) (q := 28) dX5_init_25 rfl fl_X5_18 ⟨_, _, _, rfl, rfl, rfl⟩ rfl rfl (by omega) rfl ho ?_
  have hz := hz.upR (i := 2) (v := E.2.2 + ((n + 1) + 1)) (show o < _ by omega)
  refine wk_aload_n (i := 0) (q := 29) dX5_init_28 rfl rfl rfl ?_
  refine wk_bipush (q := 31) dX5_init_29 rfl (by decide +kernel) ?_
  refine wk_newI (z := 7) (q := 33) dX5_init_31 rfl (qtb_in 94 (by decide +kernel) (by decide +kernel)) rfl (by decide) hz (Nat.le_of_ble_eq_true rfl) (Nat.le_of_ble_eq_true rfl) ?_
  have hz := hz.up1
  have ho := ho.sh1 (v := (0, 7))
  refine wk_putF (fi := 3) (q := 36) dX5_init_33 rfl fl_X5_21 ⟨_, _, _, rfl, rfl, rfl⟩ rfl rfl (by omega) rfl ho ?_
  have hz := hz.upR (i := 3) (v := E.2.2 + (((n + 1) + 1) + 1)) (show o < _ by omega)
  refine wk_aload_n (i := 0) (q := 37) dX5_init_36 rfl rfl rfl ?_
  refine wk_bipush (q := 39) dX5_init_37 rfl (by decide +kernel) ?_
  refine wk_newI (z := 7) (q := 41) dX5_init_39 rfl (qtb_in 94 (by decide +kernel) (by decide +kernel)) rfl (by decide) hz (Nat.le_of_ble_eq_true rfl) (Nat.le_of_ble_eq_true rfl) ?_
  have hz := hz.up1
  have ho := ho.sh1 (v := (0, 7))
  refine wk_putF (fi := 4) (q := 44) dX5_init_41 rfl fl_X5_24 ⟨_, _, _, rfl, rfl, rfl⟩ rfl rfl (by omega) rfl ho ?_
  have hz := hz.upR (i := 4) (v := E.2.2 + ((((n + 1) + 1) + 1) + 1)) (show o < _ by omega)
  refine wk_aload_n (i := 0) (q := 45) dX5_init_44 rfl rfl rfl ?_
  refine wk_bipush (q := 47) dX5_init_45 rfl (by decide +kernel) ?_
  refine wk_bipush (q := 49) dX5_init_47 rfl (by decide +kernel) ?_
  refine wk_mna (z := 7) (w := 6) (q := 53) dX5_init_49 rfl (qtb_in 45 (by decide +kernel) (by decide +kernel)) (qtb_in 94 (by decide +kernel) (by decide +kernel)) rfl rfl (by decide) (by decide) hz (Nat.le_of_ble_eq_true rfl) (Nat.le_of_ble_eq_true rfl) ?_
  have hz := hz.upA (z := 7)
  have ho := ho.shA1 (z := 7) (w := 6)
  refine wk_putF (fi := 5) (q := 56) dX5_init_53 rfl fl_X5_29 ⟨_, _, _, rfl, rfl, rfl⟩ rfl rfl (by omega) rfl ho ?_
  have hz := hz.upR (i := 5) (v := E.2.2 + (((((n + 1) + 1) + 1) + 1) + 1)) (show o < _ by omega)
  refine wk_ret dX5_init_56 rfl ⟨Nat.le_of_ble_eq_true rfl, Nat.le_of_ble_eq_true rfl⟩ rfl ?_
  refine ⟨rfl, _, _, rfl, ?_, fun b hb1 => ?_, fun b i hb1 => ?_⟩
  · refine ⟨by omega, fun p hp => ?_, fun p hp => ?_⟩
    · simp only [qTold_c, List.mem_cons, List.not_mem_nil, or_false] at hp
      rcases hp with rfl | rfl | rfl | rfl | rfl | rfl | rfl | rfl | rfl | rfl | rfl | rfl | rfl | rfl
      · refine ⟨by omega, by omega, ?_, by decide⟩
        show _ = ((9, 0) : Nat × Nat)
        simp only [shu, shA]
        repeat (first | rw [if_pos (by omega)] | rw [if_neg (by omega)])
        exact ho0.2.2.1
      · refine ⟨by omega, by omega, ?_, by decide⟩
        show _ = ((0, 6) : Nat × Nat)
        simp only [shu, shA]
        repeat (first | rw [if_pos (by omega)] | rw [if_neg (by omega)])
      · refine ⟨by omega, by omega, ?_, by decide⟩
        show _ = ((0, 6) : Nat × Nat)
        simp only [shu, shA]
        repeat (first | rw [if_pos (by omega)] | rw [if_neg (by omega)])
      · refine ⟨by omega, by omega, ?_, by decide⟩
        show _ = ((0, 7) : Nat × Nat)
        simp only [shu, shA]
        repeat (first | rw [if_pos (by omega)] | rw [if_neg (by omega)])
      · refine ⟨by omega, by omega, ?_, by decide⟩
        show _ = ((0, 7) : Nat × Nat)
        simp only [shu, shA]
        repeat (first | rw [if_pos (by omega)] | rw [if_neg (by omega)])
      · refine ⟨by omega, by omega, ?_, by decide⟩
        show _ = ((0, 7) : Nat × Nat)
        simp only [shu, shA]
        repeat (first | rw [if_pos (by omega)] | rw [if_neg (by omega)])
      · refine ⟨by omega, by omega, ?_, by decide⟩
        show _ = ((2, 7) : Nat × Nat)
        simp only [shu, shA]
        repeat (first | rw [if_pos (by omega)] | rw [if_neg (by omega)])
      · refine ⟨by omega, by omega, ?_, by decide⟩
        show _ = ((0, 6) : Nat × Nat)
        simp only [shu, shA]
        repeat (first | rw [if_pos (by omega)] | rw [if_neg (by omega)])
      · refine ⟨by omega, by omega, ?_, by decide⟩
        show _ = ((0, 6) : Nat × Nat)
        simp only [shu, shA]
        repeat (first | rw [if_pos (by omega)] | rw [if_neg (by omega)])
      · refine ⟨by omega, by omega, ?_, by decide⟩
        show _ = ((0, 6) : Nat × Nat)
        simp only [shu, shA]
        repeat (first | rw [if_pos (by omega)] | rw [if_neg (by omega)])
      · refine ⟨by omega, by omega, ?_, by decide⟩
        show _ = ((0, 6) : Nat × Nat)
        simp only [shu, shA]
        repeat (first | rw [if_pos (by omega)] | rw [if_neg (by omega)])
      · refine ⟨by omega, by omega, ?_, by decide⟩
        show _ = ((0, 6) : Nat × Nat)
        simp only [shu, shA]
        repeat (first | rw [if_pos (by omega)] | rw [if_neg (by omega)])
      · refine ⟨by omega, by omega, ?_, by decide⟩
        show _ = ((0, 6) : Nat × Nat)
        simp only [shu, shA]
        repeat (first | rw [if_pos (by omega)] | rw [if_neg (by omega)])
      · refine ⟨by omega, by omega, ?_, by decide⟩
        show _ = ((0, 6) : Nat × Nat)
        simp only [shu, shA]
        repeat (first | rw [if_pos (by omega)] | rw [if_neg (by omega)])
    · simp only [qTold_r, List.mem_cons, List.not_mem_nil, or_false] at hp
      rcases hp with rfl | rfl | rfl | rfl | rfl | rfl | rfl | rfl | rfl | rfl | rfl | rfl | rfl
      · show _ = o + 1
        dsimp only
        repeat (first | rw [up_o2 (by omega)] | rw [up_e2 (by omega)] | rw [rwR_ne (by omega)] | rw [rwR_i2 (by omega) (by omega)])
        try omega
      · show _ = o + 2
        dsimp only
        repeat (first | rw [up_o2 (by omega)] | rw [up_e2 (by omega)] | rw [rwR_ne (by omega)] | rw [rwR_i2 (by omega) (by omega)])
        try omega
      · show _ = o + 3
        dsimp only
        repeat (first | rw [up_o2 (by omega)] | rw [up_e2 (by omega)] | rw [rwR_ne (by omega)] | rw [rwR_i2 (by omega) (by omega)])
        try omega
      · show _ = o + 4
        dsimp only
        repeat (first | rw [up_o2 (by omega)] | rw [up_e2 (by omega)] | rw [rwR_ne (by omega)] | rw [rwR_i2 (by omega) (by omega)])
        try omega
      · show _ = o + 5
        dsimp only
        repeat (first | rw [up_o2 (by omega)] | rw [up_e2 (by omega)] | rw [rwR_ne (by omega)] | rw [rwR_i2 (by omega) (by omega)])
        try omega
      · show _ = o + 6
        dsimp only
        repeat (first | rw [up_o2 (by omega)] | rw [up_e2 (by omega)] | rw [rwR_ne (by omega)] | rw [rwR_i2 (by omega) (by omega)])
        try omega
      · show _ = o + 7
        dsimp only
        repeat (first | rw [up_o2 (by omega)] | rw [up_e2 (by omega)] | rw [rwR_ne (by omega)] | rw [rwR_i2 (by omega) (by omega)])
        try omega
      · show _ = o + 8
        dsimp only
        repeat (first | rw [up_o2 (by omega)] | rw [up_e2 (by omega)] | rw [rwR_ne (by omega)] | rw [rwR_i2 (by omega) (by omega)])
        try omega
      · show _ = o + 9
        dsimp only
        repeat (first | rw [up_o2 (by omega)] | rw [up_e2 (by omega)] | rw [rwR_ne (by omega)] | rw [rwR_i2 (by omega) (by omega)])
        try omega
      · show _ = o + 10
        dsimp only
        repeat (first | rw [up_o2 (by omega)] | rw [up_e2 (by omega)] | rw [rwR_ne (by omega)] | rw [rwR_i2 (by omega) (by omega)])
        try omega
      · show _ = o + 11
        dsimp only
        repeat (first | rw [up_o2 (by omega)] | rw [up_e2 (by omega)] | rw [rwR_ne (by omega)] | rw [rwR_i2 (by omega) (by omega)])
        try omega
      · show _ = o + 12
        dsimp only
        repeat (first | rw [up_o2 (by omega)] | rw [up_e2 (by omega)] | rw [rwR_ne (by omega)] | rw [rwR_i2 (by omega) (by omega)])
        try omega
      · show _ = o + 13
        dsimp only
        repeat (first | rw [up_o2 (by omega)] | rw [up_e2 (by omega)] | rw [rwR_ne (by omega)] | rw [rwR_i2 (by omega) (by omega)])
        try omega
  · simp only [shu, shA]
    repeat (first | rw [if_neg (by omega)])
  · simp only [up, rwR]
    repeat (first | rw [if_neg (by omega)])
theorem ct_X1_init {o : Nat} (hb : 0 < E.2.2) (ho : isC E.2.2 n sh o 5 0) (hn : E.2.2 + n = o + 1) (hz : qZr (E.2.2 + n) I L R) :
    Ct l E 1 mX1_init [.ref o] (n, sh, I, L, R) 2 208 (fun r S' => r = none ∧ ∃ sh' R', S' = (n + 2, sh', (up I o 3 (1)), L, R') ∧ qEver E.2.2 (n + 2) sh' R' o ∧ (∀ b, b < o + 1 → sh' b = sh b) ∧ ∀ b i, ¬ (o ≤ b ∧ b < o + 3) → R' b i = R b i) := by
  refine Ct.of (lo := [(0, _)]) ok_X1_init (Nat.le_of_ble_eq_true rfl) rfl ?_
  have ho0 := ho
  have ho1 := ho.1
  refine wk_aload_n (i := 0) (q := 1) dX1_init_0 rfl rfl rfl ?_
  refine wk_obj (q := 4) dX1_init_1 rfl (qtb_in 158 (by decide +kernel) (by decide +kernel)) (qtb_in 35 (by decide +kernel) (by decide +kernel)) (qtb_in 36 (by decide +kernel) (by decide +kernel)) (Nat.le_of_ble_eq_true rfl) (Nat.le_of_ble_eq_true rfl) ?_
  refine wk_aload_n (i := 0) (q := 5) dX1_init_4 rfl rfl rfl ?_
  refine wk_bipush (q := 7) dX1_init_5 rfl (by decide +kernel) ?_
  refine wk_newI (z := 7) (q := 9) dX1_init_7 rfl (qtb_in 94 (by decide +kernel) (by decide +kernel)) rfl (by decide) hz (Nat.le_of_ble_eq_true rfl) (Nat.le_of_ble_eq_true rfl) ?_
  have hz := hz.up1
  have ho := ho.sh1 (v := (0, 7))
  refine wk_putF (fi := 0) (q := 12) dX1_init_9 rfl fl_X1_9 ⟨_, _, _, rfl, rfl, rfl⟩ rfl rfl (by omega) rfl ho ?_
  have hz := hz.upR (i := 0) (v := E.2.2 + n) (show o < _ by omega)
  refine wk_aload_n (i := 0) (q := 13) dX1_init_12 rfl rfl rfl ?_
  refine wk_sipush (q := 16) dX1_init_13 rfl (by decide +kernel) ?_
  refine wk_newI (z := 201) (q := 18) dX1_init_16 rfl (qtb_in 94 (by decide +kernel) (by decide +kernel)) rfl (by decide) hz (Nat.le_of_ble_eq_true rfl) (Nat.le_of_ble_eq_true rfl) ?_
  have hz := hz.up1
  have ho := ho.sh1 (v := (0, 201))
  refine wk_putF (fi := 1) (q := 21) dX1_init_18 rfl fl_X1_15 ⟨_, _, _, rfl, rfl, rfl⟩ rfl rfl (by omega) rfl ho ?_
  have hz := hz.upR (i := 1) (v := E.2.2 + (n + 1)) (show o < _ by omega)
  refine wk_aload_n (i := 0) (q := 22) dX1_init_21 rfl rfl rfl ?_
  refine wk_iconst (q := 23) dX1_init_22 rfl ?_
  refine wk_putI (fi := 3) (q := 26) dX1_init_23 rfl fl_X1_18 fw_1_3 rfl rfl ho ?_
  have hz := hz.upI (i := 3) (v := 1) (show o < _ by omega)
  refine wk_ret dX1_init_26 rfl ⟨Nat.le_of_ble_eq_true rfl, Nat.le_of_ble_eq_true rfl⟩ rfl ?_
  refine ⟨rfl, _, _, rfl, ?_, fun b hb1 => ?_, fun b i hb1 => ?_⟩
  · refine ⟨by omega, fun p hp => ?_, fun p hp => ?_⟩
    · simp only [qEver_c, List.mem_cons, List.not_mem_nil, or_false] at hp
      rcases hp with rfl | rfl | rfl
      · refine ⟨by omega, by omega, ?_, by decide⟩
        show _ = ((5, 0) : Nat × Nat)
        simp only [shu, shA]
        repeat (first | rw [if_pos (by omega)] | rw [if_neg (by omega)])
        exact ho0.2.2.1
      · refine ⟨by omega, by omega, ?_, by decide⟩
        show _ = ((0, 7) : Nat × Nat)
        simp only [shu, shA]
        repeat (first | rw [if_pos (by omega)] | rw [if_neg (by omega)])
      · refine ⟨by omega, by omega, ?_, by decide⟩
        show _ = ((0, 201) : Nat × Nat)
        simp only [shu, shA]
        repeat (first | rw [if_pos (by omega)] | rw [if_neg (by omega)])
    · simp only [qEver_r, List.mem_cons, List.not_mem_nil, or_false] at hp
      rcases hp with rfl | rfl
      · show _ = o + 1
        dsimp only
        repeat (first | rw [up_o2 (by omega)] | rw [up_e2 (by omega)] | rw [rwR_ne (by omega)] | rw [rwR_i2 (by omega) (by omega)])
        try omega
      · show _ = o + 2
        dsimp only
        repeat (first | rw [up_o2 (by omega)] | rw [up_e2 (by omega)] | rw [rwR_ne (by omega)] | rw [rwR_i2 (by omega) (by omega)])
        try omega
  · simp only [shu, shA]
    repeat (first | rw [if_neg (by omega)])
  · simp only [up, rwR]
    repeat (first | rw [if_neg (by omega)])
theorem ct_X0_init {o : Nat} (hb : 0 < E.2.2) (ho : isC E.2.2 n sh o 4 0) (hn : E.2.2 + n = o + 1) (hz : qZr (E.2.2 + n) I L R) :
    Ct l E 1 mX0_init [.ref o] (n, sh, I, L, R) 3 142 (fun r S' => r = none ∧ ∃ sh' R', S' = (n + 3, sh', I, L, R') ∧ qBest E.2.2 (n + 3) sh' R' o ∧ (∀ b, b < o + 1 → sh' b = sh b) ∧ ∀ b i, ¬ (o ≤ b ∧ b < o + 4) → R' b i = R b i) := by
  refine Ct.of (lo := [(0, _)]) ok_X0_init (Nat.le_of_ble_eq_true rfl) rfl ?_
  have ho0 := ho
  have ho1 := ho.1
  refine wk_aload_n (i := 0) (q := 1) dX0_init_0 rfl rfl rfl ?_
  refine wk_obj (q := 4) dX0_init_1 rfl (qtb_in 176 (by decide +kernel) (by decide +kernel)) (qtb_in 35 (by decide +kernel) (by decide +kernel)) (qtb_in 36 (by decide +kernel) (by decide +kernel)) (Nat.le_of_ble_eq_true rfl) (Nat.le_of_ble_eq_true rfl) ?_
  refine wk_aload_n (i := 0) (q := 5) dX0_init_4 rfl rfl rfl ?_
  refine wk_sipush (q := 8) dX0_init_5 rfl (by decide +kernel) ?_
  refine wk_newJ (z := 128) (q := 10) dX0_init_8 rfl (qtb_in 192 (by decide +kernel) (by decide +kernel)) rfl (by decide) hz (Nat.le_of_ble_eq_true rfl) (Nat.le_of_ble_eq_true rfl) ?_
  have hz := hz.up1
  have ho := ho.sh1 (v := (1, 128))
  refine wk_putF (fi := 1) (q := 13) dX0_init_10 rfl fl_X0_9 ⟨_, _, _, rfl, rfl, rfl⟩ rfl rfl (by omega) rfl ho ?_
  have hz := hz.upR (i := 1) (v := E.2.2 + n) (show o < _ by omega)
  refine wk_aload_n (i := 0) (q := 14) dX0_init_13 rfl rfl rfl ?_
  refine wk_bipush (q := 16) dX0_init_14 rfl (by decide +kernel) ?_
  refine wk_newJ (z := 7) (q := 18) dX0_init_16 rfl (qtb_in 192 (by decide +kernel) (by decide +kernel)) rfl (by decide) hz (Nat.le_of_ble_eq_true rfl) (Nat.le_of_ble_eq_true rfl) ?_
  have hz := hz.up1
  have ho := ho.sh1 (v := (1, 7))
  refine wk_putF (fi := 2) (q := 21) dX0_init_18 rfl fl_X0_15 ⟨_, _, _, rfl, rfl, rfl⟩ rfl rfl (by omega) rfl ho ?_
  have hz := hz.upR (i := 2) (v := E.2.2 + (n + 1)) (show o < _ by omega)
  refine wk_aload_n (i := 0) (q := 22) dX0_init_21 rfl rfl rfl ?_
  refine wk_bipush (q := 24) dX0_init_22 rfl (by decide +kernel) ?_
  refine wk_newI (z := 7) (q := 26) dX0_init_24 rfl (qtb_in 94 (by decide +kernel) (by decide +kernel)) rfl (by decide) hz (Nat.le_of_ble_eq_true rfl) (Nat.le_of_ble_eq_true rfl) ?_
  have hz := hz.up1
  have ho := ho.sh1 (v := (0, 7))
  refine wk_putF (fi := 3) (q := 29) dX0_init_26 rfl fl_X0_18 ⟨_, _, _, rfl, rfl, rfl⟩ rfl rfl (by omega) rfl ho ?_
  have hz := hz.upR (i := 3) (v := E.2.2 + ((n + 1) + 1)) (show o < _ by omega)
  refine wk_ret dX0_init_29 rfl ⟨Nat.le_of_ble_eq_true rfl, Nat.le_of_ble_eq_true rfl⟩ rfl ?_
  refine ⟨rfl, _, _, rfl, ?_, fun b hb1 => ?_, fun b i hb1 => ?_⟩
  · refine ⟨by omega, fun p hp => ?_, fun p hp => ?_⟩
    · simp only [qBest_c, List.mem_cons, List.not_mem_nil, or_false] at hp
      rcases hp with rfl | rfl | rfl | rfl
      · refine ⟨by omega, by omega, ?_, by decide⟩
        show _ = ((4, 0) : Nat × Nat)
        simp only [shu, shA]
        repeat (first | rw [if_pos (by omega)] | rw [if_neg (by omega)])
        exact ho0.2.2.1
      · refine ⟨by omega, by omega, ?_, by decide⟩
        show _ = ((1, 128) : Nat × Nat)
        simp only [shu, shA]
        repeat (first | rw [if_pos (by omega)] | rw [if_neg (by omega)])
      · refine ⟨by omega, by omega, ?_, by decide⟩
        show _ = ((1, 7) : Nat × Nat)
        simp only [shu, shA]
        repeat (first | rw [if_pos (by omega)] | rw [if_neg (by omega)])
      · refine ⟨by omega, by omega, ?_, by decide⟩
        show _ = ((0, 7) : Nat × Nat)
        simp only [shu, shA]
        repeat (first | rw [if_pos (by omega)] | rw [if_neg (by omega)])
    · simp only [qBest_r, List.mem_cons, List.not_mem_nil, or_false] at hp
      rcases hp with rfl | rfl | rfl
      · show _ = o + 1
        dsimp only
        repeat (first | rw [up_o2 (by omega)] | rw [up_e2 (by omega)] | rw [rwR_ne (by omega)] | rw [rwR_i2 (by omega) (by omega)])
        try omega
      · show _ = o + 2
        dsimp only
        repeat (first | rw [up_o2 (by omega)] | rw [up_e2 (by omega)] | rw [rwR_ne (by omega)] | rw [rwR_i2 (by omega) (by omega)])
        try omega
      · show _ = o + 3
        dsimp only
        repeat (first | rw [up_o2 (by omega)] | rw [up_e2 (by omega)] | rw [rwR_ne (by omega)] | rw [rwR_i2 (by omega) (by omega)])
        try omega
  · simp only [shu, shA]
    repeat (first | rw [if_neg (by omega)])
  · simp only [up, rwR]
    repeat (first | rw [if_neg (by omega)])
theorem ct_X2_init {o : Nat} (hb : 0 < E.2.2) (ho : isC E.2.2 n sh o 6 0) (hn : E.2.2 + n = o + 1) (hz : qZr (E.2.2 + n) I L R) :
    Ct l E 1 mX2_init [.ref o] (n, sh, I, L, R) 4 18 (fun r S' => r = none ∧ ∃ sh' R', S' = (n + 4, sh', I, L, R') ∧ qSeat E.2.2 (n + 4) sh' R' o ∧ (∀ b, b < o + 1 → sh' b = sh b) ∧ ∀ b i, ¬ (o ≤ b ∧ b < o + 5) → R' b i = R b i) := by
  refine Ct.of (lo := [(0, _)]) ok_X2_init (Nat.le_of_ble_eq_true rfl) rfl ?_
  have ho0 := ho
  have ho1 := ho.1
  refine wk_aload_n (i := 0) (q := 1) dX2_init_0 rfl rfl rfl ?_
  refine wk_obj (q := 4) dX2_init_1 rfl (qtb_in 198 (by decide +kernel) (by decide +kernel)) (qtb_in 35 (by decide +kernel) (by decide +kernel)) (qtb_in 36 (by decide +kernel) (by decide +kernel)) (Nat.le_of_ble_eq_true rfl) (Nat.le_of_ble_eq_true rfl) ?_
  refine wk_aload_n (i := 0) (q := 5) dX2_init_4 rfl rfl rfl ?_
  refine wk_iconst (q := 6) dX2_init_5 rfl ?_
  refine wk_newI (z := 2) (q := 8) dX2_init_6 rfl (qtb_in 94 (by decide +kernel) (by decide +kernel)) rfl (by decide) hz (Nat.le_of_ble_eq_true rfl) (Nat.le_of_ble_eq_true rfl) ?_
  have hz := hz.up1
  have ho := ho.sh1 (v := (0, 2))
  refine wk_putF (fi := 1) (q := 11) dX2_init_8 rfl fl_X2_11 ⟨_, _, _, rfl, rfl, rfl⟩ rfl rfl (by omega) rfl ho ?_
  have hz := hz.upR (i := 1) (v := E.2.2 + n) (show o < _ by omega)
  refine wk_aload_n (i := 0) (q := 12) dX2_init_11 rfl rfl rfl ?_
  refine wk_iconst (q := 13) dX2_init_12 rfl ?_
  refine wk_bipush (q := 15) dX2_init_13 rfl (by decide +kernel) ?_
  refine wk_mna (z := 2) (w := 7) (q := 19) dX2_init_15 rfl (qtb_in 199 (by decide +kernel) (by decide +kernel)) (qtb_in 94 (by decide +kernel) (by decide +kernel)) rfl rfl (by decide) (by decide) hz (Nat.le_of_ble_eq_true rfl) (Nat.le_of_ble_eq_true rfl) ?_
  have hz := hz.upA (z := 2)
  have ho := ho.shA1 (z := 2) (w := 7)
  refine wk_putF (fi := 2) (q := 22) dX2_init_19 rfl fl_X2_17 ⟨_, _, _, rfl, rfl, rfl⟩ rfl rfl (by omega) rfl ho ?_
  have hz := hz.upR (i := 2) (v := E.2.2 + (n + 1)) (show o < _ by omega)
  refine wk_ret dX2_init_22 rfl ⟨Nat.le_of_ble_eq_true rfl, Nat.le_of_ble_eq_true rfl⟩ rfl ?_
  refine ⟨rfl, _, _, rfl, ?_, fun b hb1 => ?_, fun b i hb1 => ?_⟩
  · refine ⟨by omega, fun p hp => ?_, fun p hp => ?_⟩
    · simp only [qSeat_c, List.mem_cons, List.not_mem_nil, or_false] at hp
      rcases hp with rfl | rfl | rfl | rfl | rfl
      · refine ⟨by omega, by omega, ?_, by decide⟩
        show _ = ((6, 0) : Nat × Nat)
        simp only [shu, shA]
        repeat (first | rw [if_pos (by omega)] | rw [if_neg (by omega)])
        exact ho0.2.2.1
      · refine ⟨by omega, by omega, ?_, by decide⟩
        show _ = ((0, 2) : Nat × Nat)
        simp only [shu, shA]
        repeat (first | rw [if_pos (by omega)] | rw [if_neg (by omega)])
      · refine ⟨by omega, by omega, ?_, by decide⟩
        show _ = ((2, 2) : Nat × Nat)
        simp only [shu, shA]
        repeat (first | rw [if_pos (by omega)] | rw [if_neg (by omega)])
      · refine ⟨by omega, by omega, ?_, by decide⟩
        show _ = ((0, 7) : Nat × Nat)
        simp only [shu, shA]
        repeat (first | rw [if_pos (by omega)] | rw [if_neg (by omega)])
      · refine ⟨by omega, by omega, ?_, by decide⟩
        show _ = ((0, 7) : Nat × Nat)
        simp only [shu, shA]
        repeat (first | rw [if_pos (by omega)] | rw [if_neg (by omega)])
    · simp only [qSeat_r, List.mem_cons, List.not_mem_nil, or_false] at hp
      rcases hp with rfl | rfl | rfl | rfl
      · show _ = o + 1
        dsimp only
        repeat (first | rw [up_o2 (by omega)] | rw [up_e2 (by omega)] | rw [rwR_ne (by omega)] | rw [rwR_i2 (by omega) (by omega)])
        try omega
      · show _ = o + 2
        dsimp only
        repeat (first | rw [up_o2 (by omega)] | rw [up_e2 (by omega)] | rw [rwR_ne (by omega)] | rw [rwR_i2 (by omega) (by omega)])
        try omega
      · show _ = o + 3
        dsimp only
        repeat (first | rw [up_o2 (by omega)] | rw [up_e2 (by omega)] | rw [rwR_ne (by omega)] | rw [rwR_i2 (by omega) (by omega)])
        try omega
      · show _ = o + 4
        dsimp only
        repeat (first | rw [up_o2 (by omega)] | rw [up_e2 (by omega)] | rw [rwR_ne (by omega)] | rw [rwR_i2 (by omega) (by omega)])
        try omega
  · simp only [shu, shA]
    repeat (first | rw [if_neg (by omega)])
  · simp only [up, rwR]
    repeat (first | rw [if_neg (by omega)])
theorem ct_X3_init {o : Nat} (hb : 0 < E.2.2) (ho : isC E.2.2 n sh o 7 0) (hn : E.2.2 + n = o + 1) (hz : qZr (E.2.2 + n) I L R) :
    Ct l E 1 mX3_init [.ref o] (n, sh, I, L, R) 1 100 (fun r S' => r = none ∧ ∃ sh' R', S' = (n + 1, sh', I, L, R') ∧ qSheet E.2.2 (n + 1) sh' R' o ∧ (∀ b, b < o + 1 → sh' b = sh b) ∧ ∀ b i, ¬ (o ≤ b ∧ b < o + 2) → R' b i = R b i) := by
  refine Ct.of (lo := [(0, _)]) ok_X3_init (Nat.le_of_ble_eq_true rfl) rfl ?_
  have ho0 := ho
  have ho1 := ho.1
  refine wk_aload_n (i := 0) (q := 1) dX3_init_0 rfl rfl rfl ?_
  refine wk_obj (q := 4) dX3_init_1 rfl (qtb_in 214 (by decide +kernel) (by decide +kernel)) (qtb_in 35 (by decide +kernel) (by decide +kernel)) (qtb_in 36 (by decide +kernel) (by decide +kernel)) (Nat.le_of_ble_eq_true rfl) (Nat.le_of_ble_eq_true rfl) ?_
  refine wk_aload_n (i := 0) (q := 5) dX3_init_4 rfl rfl rfl ?_
  refine wk_bipush (q := 7) dX3_init_5 rfl (by decide +kernel) ?_
  refine wk_newI (z := 100) (q := 9) dX3_init_7 rfl (qtb_in 94 (by decide +kernel) (by decide +kernel)) rfl (by decide) hz (Nat.le_of_ble_eq_true rfl) (Nat.le_of_ble_eq_true rfl) ?_
  have hz := hz.up1
  have ho := ho.sh1 (v := (0, 100))
  refine wk_putF (fi := 0) (q := 12) dX3_init_9 rfl fl_X3_9 ⟨_, _, _, rfl, rfl, rfl⟩ rfl rfl (by omega) rfl ho ?_
  have hz := hz.upR (i := 0) (v := E.2.2 + n) (show o < _ by omega)
  refine wk_ret dX3_init_12 rfl ⟨Nat.le_of_ble_eq_true rfl, Nat.le_of_ble_eq_true rfl⟩ rfl ?_
  refine ⟨rfl, _, _, rfl, ?_, fun b hb1 => ?_, fun b i hb1 => ?_⟩
  · refine ⟨by omega, fun p hp => ?_, fun p hp => ?_⟩
    · simp only [qSheet_c, List.mem_cons, List.not_mem_nil, or_false] at hp
      rcases hp with rfl | rfl
      · refine ⟨by omega, by omega, ?_, by decide⟩
        show _ = ((7, 0) : Nat × Nat)
        simp only [shu, shA]
        repeat (first | rw [if_pos (by omega)] | rw [if_neg (by omega)])
        exact ho0.2.2.1
      · refine ⟨by omega, by omega, ?_, by decide⟩
        show _ = ((0, 100) : Nat × Nat)
        simp only [shu, shA]
        repeat (first | rw [if_pos (by omega)] | rw [if_neg (by omega)])
    · simp only [qSheet_r, List.mem_cons, List.not_mem_nil, or_false] at hp
      rcases hp with rfl
      · show _ = o + 1
        dsimp only
        repeat (first | rw [up_o2 (by omega)] | rw [up_e2 (by omega)] | rw [rwR_ne (by omega)] | rw [rwR_i2 (by omega) (by omega)])
        try omega
  · simp only [shu, shA]
    repeat (first | rw [if_neg (by omega)])
  · simp only [up, rwR]
    repeat (first | rw [if_neg (by omega)])
end CTOR
