/-! CONSTRUCTORS of Table and RoundAsk -/
section CTOR4
variable {l : Launch} {E : qEv} {n : Nat} {sh : qSh} {I L : qI} {R : qR}
theorem ct_X4_init {t : Nat} (hb : 0 < E.2.2) (ho : isC E.2.2 n sh t 8 0) (hn : E.2.2 + n = t + 1) (hz : qZr (E.2.2 + n) I L R) :
    Ct l E 2 mX4_init [.ref t] (n, sh, I, L, R) 37 247 (fun r S' => r = none ∧ ∃ sh' R', S' = (n + 37, sh', up I t 8 (-1), L, R') ∧ qTab E.2.2 (n + 37) sh' R' t (t + 1) ∧ (∀ b, b < t + 1 → sh' b = sh b) ∧ ∀ b i, ¬ (t ≤ b ∧ b < t + 38) → R' b i = R b i) := by
  refine Ct.of (lo := [(0, _)]) ok_X4_init (Nat.le_of_ble_eq_true rfl) rfl ?_
  have ho0 := ho
  have ho1 := ho.1
  refine wk_aload_n (i := 0) (q := 1) dX4_init_0 rfl rfl rfl ?_
  refine wk_obj (q := 4) dX4_init_1 rfl (qtb_in 100 (by decide +kernel) (by decide +kernel)) (qtb_in 35 (by decide +kernel) (by decide +kernel)) (qtb_in 36 (by decide +kernel) (by decide +kernel)) (Nat.le_of_ble_eq_true rfl) (Nat.le_of_ble_eq_true rfl) ?_
  refine wk_aload_n (i := 0) (q := 5) dX4_init_4 rfl rfl rfl ?_
  refine wk_mk (ci := 5) (d := 1) (mc := 13) (ms := 82) (o := t + 1) (n' := (n + 14)) (k' := 14) (j' := 93) (G := (fun sh' I' R' => I' = I ∧ qTold E.2.2 (n + 14) sh' R' (t + 1) ∧ ∀ b i, ¬ (t + 1 ≤ b ∧ b < t + 1 + 14) → R' b i = R b i)) dX4_init_5 dX4_init_8 dX4_init_9 (q := 12) rfl ck_5 (qtb_in 101 (by decide +kernel) (by decide +kernel)) (qtb_in 40 (by decide +kernel) (by decide +kernel)) (qtb_in 21 (by decide +kernel) (by decide +kernel)) df_5 hz (Nat.le_of_ble_eq_true rfl) (Nat.le_of_ble_eq_true rfl) ok_X5_init (Or.inl (List.mem_of_getElem? (i := 2) rfl)) (qtb_in 42 (by decide +kernel) (by decide +kernel)) rfl rfl rfl (by omega) (by omega) rfl rfl (fun sh1 g1 g2 => (ct_X5_init (o := t + 1) hb g1 (by omega) hz.up1).mono (fun v S' q => by obtain ⟨e1, sh', R', e2, f1, f2, f3⟩ := q; exact ⟨e1, sh', _, R', e2, fun b hb => f2 b (by omega), rfl, f1, f3⟩)) ⟨Nat.le_of_ble_eq_true rfl, Nat.le_of_ble_eq_true rfl, Nat.le_of_ble_eq_true rfl, Nat.le_of_ble_eq_true rfl⟩ (Nat.le_of_ble_eq_true rfl) (fun s5 J5 R5 hs5 hg5 => ?_)
  obtain ⟨e5, g5, r5⟩ := hg5
  subst J5
  have hz : qZr (E.2.2 + (n + 14)) I L R5 := fun b i q => ⟨(hz b i (by omega)).1, (hz b i (by omega)).2.1, by rw [r5 _ _ (by omega)]; exact (hz b i (by omega)).2.2⟩
  have ho : isC E.2.2 (n + 14) s5 t 8 0 := ho.mono (by omega) (hs5 t (by omega))
  refine wk_putR (fi := 0) (q := 15) dX4_init_12 rfl fl_X4_12 fw_4_0 rfl (by omega) rfl ho ?_
  have hz := hz.upR (i := 0) (v := t + 1) (show t < _ by omega)
  refine wk_aload_n (i := 0) (q := 16) dX4_init_15 rfl rfl rfl ?_
  refine wk_bipush (q := 18) dX4_init_16 rfl (by decide +kernel) ?_
  refine wk_newI (z := 7) (q := 20) dX4_init_18 rfl (qtb_in 94 (by decide +kernel) (by decide +kernel)) rfl (by decide) hz (Nat.le_of_ble_eq_true rfl) (Nat.le_of_ble_eq_true rfl) ?_
  have hz := hz.up1
  have ho := ho.sh1 (v := (0, 7))
  refine wk_putF (fi := 1) (q := 23) dX4_init_20 rfl fl_X4_18 ⟨_, _, _, rfl, rfl, rfl⟩ rfl rfl (by omega) rfl ho ?_
  have hz := hz.upR (i := 1) (v := E.2.2 + (n + 14)) (show t < _ by omega)
  refine wk_aload_n (i := 0) (q := 24) dX4_init_23 rfl rfl rfl ?_
  refine wk_bipush (q := 26) dX4_init_24 rfl (by decide +kernel) ?_
  refine wk_newI (z := 7) (q := 28) dX4_init_26 rfl (qtb_in 94 (by decide +kernel) (by decide +kernel)) rfl (by decide) hz (Nat.le_of_ble_eq_true rfl) (Nat.le_of_ble_eq_true rfl) ?_
  have hz := hz.up1
  have ho := ho.sh1 (v := (0, 7))
  refine wk_putF (fi := 2) (q := 31) dX4_init_28 rfl fl_X4_22 ⟨_, _, _, rfl, rfl, rfl⟩ rfl rfl (by omega) rfl ho ?_
  have hz := hz.upR (i := 2) (v := E.2.2 + ((n + 14) + 1)) (show t < _ by omega)
  refine wk_aload_n (i := 0) (q := 32) dX4_init_31 rfl rfl rfl ?_
  refine wk_bipush (q := 34) dX4_init_32 rfl (by decide +kernel) ?_
  refine wk_newI (z := 7) (q := 36) dX4_init_34 rfl (qtb_in 94 (by decide +kernel) (by decide +kernel)) rfl (by decide) hz (Nat.le_of_ble_eq_true rfl) (Nat.le_of_ble_eq_true rfl) ?_
  have hz := hz.up1
  have ho := ho.sh1 (v := (0, 7))
  refine wk_putF (fi := 3) (q := 39) dX4_init_36 rfl fl_X4_25 ⟨_, _, _, rfl, rfl, rfl⟩ rfl rfl (by omega) rfl ho ?_
  have hz := hz.upR (i := 3) (v := E.2.2 + (((n + 14) + 1) + 1)) (show t < _ by omega)
  refine wk_aload_n (i := 0) (q := 40) dX4_init_39 rfl rfl rfl ?_
  refine wk_bipush (q := 42) dX4_init_40 rfl (by decide +kernel) ?_
  refine wk_bipush (q := 44) dX4_init_42 rfl (by decide +kernel) ?_
  refine wk_mna (z := 7) (w := 6) (q := 48) dX4_init_44 rfl (qtb_in 103 (by decide +kernel) (by decide +kernel)) (qtb_in 94 (by decide +kernel) (by decide +kernel)) rfl rfl (by decide) (by decide) hz (Nat.le_of_ble_eq_true rfl) (Nat.le_of_ble_eq_true rfl) ?_
  have hz := hz.upA (z := 7)
  have ho := ho.shA1 (z := 7) (w := 6)
  refine wk_putF (fi := 4) (q := 51) dX4_init_48 rfl fl_X4_30 ⟨_, _, _, rfl, rfl, rfl⟩ rfl rfl (by omega) rfl ho ?_
  have hz := hz.upR (i := 4) (v := E.2.2 + ((((n + 14) + 1) + 1) + 1)) (show t < _ by omega)
  refine wk_aload_n (i := 0) (q := 52) dX4_init_51 rfl rfl rfl ?_
  refine wk_iconst (q := 53) dX4_init_52 rfl ?_
  refine wk_putI (fi := 8) (q := 56) dX4_init_53 rfl fl_X4_33 fw_4_8 rfl rfl ho ?_
  have hz := hz.upI (i := 8) (v := -1) (show t < _ by omega)
  refine wk_aload_n (i := 0) (q := 57) dX4_init_56 rfl rfl rfl ?_
  refine wk_bipush (q := 59) dX4_init_57 rfl (by decide +kernel) ?_
  refine wk_newI (z := 6) (q := 61) dX4_init_59 rfl (qtb_in 94 (by decide +kernel) (by decide +kernel)) rfl (by decide) hz (Nat.le_of_ble_eq_true rfl) (Nat.le_of_ble_eq_true rfl) ?_
  have hz := hz.up1
  have ho := ho.sh1 (v := (0, 6))
  refine wk_putF (fi := 9) (q := 64) dX4_init_61 rfl fl_X4_37 ⟨_, _, _, rfl, rfl, rfl⟩ rfl rfl (by omega) rfl ho ?_
  have hz := hz.upR (i := 9) (v := E.2.2 + (((((n + 14) + 1) + 1) + 1) + (1 + 7))) (show t < _ by omega)
  refine wk_aload_n (i := 0) (q := 65) dX4_init_64 rfl rfl rfl ?_
  refine wk_bipush (q := 67) dX4_init_65 rfl (by decide +kernel) ?_
  refine wk_bipush (q := 69) dX4_init_67 rfl (by decide +kernel) ?_
  refine wk_mna (z := 8) (w := 7) (q := 73) dX4_init_69 rfl (qtb_in 103 (by decide +kernel) (by decide +kernel)) (qtb_in 94 (by decide +kernel) (by decide +kernel)) rfl rfl (by decide) (by decide) hz (Nat.le_of_ble_eq_true rfl) (Nat.le_of_ble_eq_true rfl) ?_
  have hz := hz.upA (z := 8)
  have ho := ho.shA1 (z := 8) (w := 7)
  refine wk_putF (fi := 10) (q := 76) dX4_init_73 rfl fl_X4_40 ⟨_, _, _, rfl, rfl, rfl⟩ rfl rfl (by omega) rfl ho ?_
  have hz := hz.upR (i := 10) (v := E.2.2 + ((((((n + 14) + 1) + 1) + 1) + (1 + 7)) + 1)) (show t < _ by omega)
  refine wk_aload_n (i := 0) (q := 77) dX4_init_76 rfl rfl rfl ?_
  refine wk_bipush (q := 79) dX4_init_77 rfl (by decide +kernel) ?_
  refine wk_newI (z := 7) (q := 81) dX4_init_79 rfl (qtb_in 94 (by decide +kernel) (by decide +kernel)) rfl (by decide) hz (Nat.le_of_ble_eq_true rfl) (Nat.le_of_ble_eq_true rfl) ?_
  have hz := hz.up1
  have ho := ho.sh1 (v := (0, 7))
  refine wk_putF (fi := 11) (q := 84) dX4_init_81 rfl fl_X4_43 ⟨_, _, _, rfl, rfl, rfl⟩ rfl rfl (by omega) rfl ho ?_
  have hz := hz.upR (i := 11) (v := E.2.2 + (((((((n + 14) + 1) + 1) + 1) + (1 + 7)) + 1) + (1 + 8))) (show t < _ by omega)
  refine wk_aload_n (i := 0) (q := 85) dX4_init_84 rfl rfl rfl ?_
  refine wk_bipush (q := 87) dX4_init_85 rfl (by decide +kernel) ?_
  refine wk_newI (z := 7) (q := 89) dX4_init_87 rfl (qtb_in 94 (by decide +kernel) (by decide +kernel)) rfl (by decide) hz (Nat.le_of_ble_eq_true rfl) (Nat.le_of_ble_eq_true rfl) ?_
  have hz := hz.up1
  have ho := ho.sh1 (v := (0, 7))
  refine wk_putF (fi := 12) (q := 92) dX4_init_89 rfl fl_X4_46 ⟨_, _, _, rfl, rfl, rfl⟩ rfl rfl (by omega) rfl ho ?_
  have hz := hz.upR (i := 12) (v := E.2.2 + ((((((((n + 14) + 1) + 1) + 1) + (1 + 7)) + 1) + (1 + 8)) + 1)) (show t < _ by omega)
  refine wk_ret dX4_init_92 rfl ⟨Nat.le_of_ble_eq_true rfl, Nat.le_of_ble_eq_true rfl⟩ rfl ?_
  refine ⟨rfl, _, _, rfl, ⟨?_, ⟨?_, by omega⟩, ?_⟩, fun b hb1 => ?_, fun b i hb1 => ?_⟩
  · refine ⟨by omega, fun p hp => ?_, fun p hp => ?_⟩
    · simp only [qTabS_c, List.mem_cons, List.not_mem_nil, or_false] at hp
      rcases hp with rfl | rfl | rfl | rfl | rfl | rfl | rfl | rfl | rfl | rfl | rfl | rfl | rfl | rfl | rfl | rfl | rfl | rfl | rfl | rfl | rfl | rfl | rfl | rfl
      · refine ⟨by omega, by omega, ?_, by decide⟩
        show _ = ((8, 0) : Nat × Nat)
        simp only [shu, shA]
        repeat (first | rw [if_pos (by omega)] | rw [if_neg (by omega)])
        exact (hs5 t (by omega)).trans ho0.2.2.1
      · refine ⟨by omega, by omega, ?_, by decide⟩
        show _ = ((0, 7) : Nat × Nat)
        simp only [shu, shA]
        repeat (first | rw [if_pos (by omega)] | rw [if_neg (by omega)])
      · refine ⟨by omega, by omega, ?_, by decide⟩
        show _ = ((0, 7) : Nat × Nat)
        simp only [shu, shA]
        repeat (first | rw [if_pos (by omega)] | rw [if_neg (by omega)])
      · refine ⟨by omega, by omega, ?_, by decide⟩
        show _ = ((0, 7) : Nat × Nat)
        simp only [shu, shA]
        repeat (first | rw [if_pos (by omega)] | rw [if_neg (by omega)])
      · refine ⟨by omega, by omega, ?_, by decide⟩
        show _ = ((2, 7) : Nat × Nat)
        simp only [shu, shA]
        repeat (first | rw [if_pos (by omega)] | rw [if_neg (by omega)])
      · refine ⟨by omega, by omega, ?_, by decide⟩
        show _ = ((0, 6) : Nat × Nat)
        simp only [shu, shA]
        repeat (first | rw [if_pos (by omega)] | rw [if_neg (by omega)])
      · refine ⟨by omega, by omega, ?_, by decide⟩
        show _ = ((0, 6) : Nat × Nat)
        simp only [shu, shA]
        repeat (first | rw [if_pos (by omega)] | rw [if_neg (by omega)])
      · refine ⟨by omega, by omega, ?_, by decide⟩
        show _ = ((0, 6) : Nat × Nat)
        simp only [shu, shA]
        repeat (first | rw [if_pos (by omega)] | rw [if_neg (by omega)])
      · refine ⟨by omega, by omega, ?_, by decide⟩
        show _ = ((0, 6) : Nat × Nat)
        simp only [shu, shA]
        repeat (first | rw [if_pos (by omega)] | rw [if_neg (by omega)])
      · refine ⟨by omega, by omega, ?_, by decide⟩
        show _ = ((0, 6) : Nat × Nat)
        simp only [shu, shA]
        repeat (first | rw [if_pos (by omega)] | rw [if_neg (by omega)])
      · refine ⟨by omega, by omega, ?_, by decide⟩
        show _ = ((0, 6) : Nat × Nat)
        simp only [shu, shA]
        repeat (first | rw [if_pos (by omega)] | rw [if_neg (by omega)])
      · refine ⟨by omega, by omega, ?_, by decide⟩
        show _ = ((0, 6) : Nat × Nat)
        simp only [shu, shA]
        repeat (first | rw [if_pos (by omega)] | rw [if_neg (by omega)])
      · refine ⟨by omega, by omega, ?_, by decide⟩
        show _ = ((0, 6) : Nat × Nat)
        simp only [shu, shA]
        repeat (first | rw [if_pos (by omega)] | rw [if_neg (by omega)])
      · refine ⟨by omega, by omega, ?_, by decide⟩
        show _ = ((2, 8) : Nat × Nat)
        simp only [shu, shA]
        repeat (first | rw [if_pos (by omega)] | rw [if_neg (by omega)])
      · refine ⟨by omega, by omega, ?_, by decide⟩
        show _ = ((0, 7) : Nat × Nat)
        simp only [shu, shA]
        repeat (first | rw [if_pos (by omega)] | rw [if_neg (by omega)])
      · refine ⟨by omega, by omega, ?_, by decide⟩
        show _ = ((0, 7) : Nat × Nat)
        simp only [shu, shA]
        repeat (first | rw [if_pos (by omega)] | rw [if_neg (by omega)])
      · refine ⟨by omega, by omega, ?_, by decide⟩
        show _ = ((0, 7) : Nat × Nat)
        simp only [shu, shA]
        repeat (first | rw [if_pos (by omega)] | rw [if_neg (by omega)])
      · refine ⟨by omega, by omega, ?_, by decide⟩
        show _ = ((0, 7) : Nat × Nat)
        simp only [shu, shA]
        repeat (first | rw [if_pos (by omega)] | rw [if_neg (by omega)])
      · refine ⟨by omega, by omega, ?_, by decide⟩
        show _ = ((0, 7) : Nat × Nat)
        simp only [shu, shA]
        repeat (first | rw [if_pos (by omega)] | rw [if_neg (by omega)])
      · refine ⟨by omega, by omega, ?_, by decide⟩
        show _ = ((0, 7) : Nat × Nat)
        simp only [shu, shA]
        repeat (first | rw [if_pos (by omega)] | rw [if_neg (by omega)])
      · refine ⟨by omega, by omega, ?_, by decide⟩
        show _ = ((0, 7) : Nat × Nat)
        simp only [shu, shA]
        repeat (first | rw [if_pos (by omega)] | rw [if_neg (by omega)])
      · refine ⟨by omega, by omega, ?_, by decide⟩
        show _ = ((0, 7) : Nat × Nat)
        simp only [shu, shA]
        repeat (first | rw [if_pos (by omega)] | rw [if_neg (by omega)])
      · refine ⟨by omega, by omega, ?_, by decide⟩
        show _ = ((0, 7) : Nat × Nat)
        simp only [shu, shA]
        repeat (first | rw [if_pos (by omega)] | rw [if_neg (by omega)])
      · refine ⟨by omega, by omega, ?_, by decide⟩
        show _ = ((0, 7) : Nat × Nat)
        simp only [shu, shA]
        repeat (first | rw [if_pos (by omega)] | rw [if_neg (by omega)])
    · simp only [qTabS_r, List.mem_cons, List.not_mem_nil, or_false] at hp
      rcases hp with rfl | rfl | rfl | rfl | rfl | rfl | rfl | rfl | rfl | rfl | rfl | rfl | rfl | rfl | rfl | rfl | rfl | rfl | rfl | rfl | rfl | rfl | rfl
      · show _ = t + 15
        dsimp only
        repeat (first | rw [up_o2 (by omega)] | rw [up_e2 (by omega)] | rw [rwR_ne (by omega)] | rw [rwR_i2 (by omega) (by omega)])
        try omega
      · show _ = t + 16
        dsimp only
        repeat (first | rw [up_o2 (by omega)] | rw [up_e2 (by omega)] | rw [rwR_ne (by omega)] | rw [rwR_i2 (by omega) (by omega)])
        try omega
      · show _ = t + 17
        dsimp only
        repeat (first | rw [up_o2 (by omega)] | rw [up_e2 (by omega)] | rw [rwR_ne (by omega)] | rw [rwR_i2 (by omega) (by omega)])
        try omega
      · show _ = t + 18
        dsimp only
        repeat (first | rw [up_o2 (by omega)] | rw [up_e2 (by omega)] | rw [rwR_ne (by omega)] | rw [rwR_i2 (by omega) (by omega)])
        try omega
      · show _ = t + 19
        dsimp only
        repeat (first | rw [up_o2 (by omega)] | rw [up_e2 (by omega)] | rw [rwR_ne (by omega)] | rw [rwR_i2 (by omega) (by omega)])
        try omega
      · show _ = t + 20
        dsimp only
        repeat (first | rw [up_o2 (by omega)] | rw [up_e2 (by omega)] | rw [rwR_ne (by omega)] | rw [rwR_i2 (by omega) (by omega)])
        try omega
      · show _ = t + 21
        dsimp only
        repeat (first | rw [up_o2 (by omega)] | rw [up_e2 (by omega)] | rw [rwR_ne (by omega)] | rw [rwR_i2 (by omega) (by omega)])
        try omega
      · show _ = t + 22
        dsimp only
        repeat (first | rw [up_o2 (by omega)] | rw [up_e2 (by omega)] | rw [rwR_ne (by omega)] | rw [rwR_i2 (by omega) (by omega)])
        try omega
      · show _ = t + 23
        dsimp only
        repeat (first | rw [up_o2 (by omega)] | rw [up_e2 (by omega)] | rw [rwR_ne (by omega)] | rw [rwR_i2 (by omega) (by omega)])
        try omega
      · show _ = t + 24
        dsimp only
        repeat (first | rw [up_o2 (by omega)] | rw [up_e2 (by omega)] | rw [rwR_ne (by omega)] | rw [rwR_i2 (by omega) (by omega)])
        try omega
      · show _ = t + 25
        dsimp only
        repeat (first | rw [up_o2 (by omega)] | rw [up_e2 (by omega)] | rw [rwR_ne (by omega)] | rw [rwR_i2 (by omega) (by omega)])
        try omega
      · show _ = t + 26
        dsimp only
        repeat (first | rw [up_o2 (by omega)] | rw [up_e2 (by omega)] | rw [rwR_ne (by omega)] | rw [rwR_i2 (by omega) (by omega)])
        try omega
      · show _ = t + 27
        dsimp only
        repeat (first | rw [up_o2 (by omega)] | rw [up_e2 (by omega)] | rw [rwR_ne (by omega)] | rw [rwR_i2 (by omega) (by omega)])
        try omega
      · show _ = t + 28
        dsimp only
        repeat (first | rw [up_o2 (by omega)] | rw [up_e2 (by omega)] | rw [rwR_ne (by omega)] | rw [rwR_i2 (by omega) (by omega)])
        try omega
      · show _ = t + 29
        dsimp only
        repeat (first | rw [up_o2 (by omega)] | rw [up_e2 (by omega)] | rw [rwR_ne (by omega)] | rw [rwR_i2 (by omega) (by omega)])
        try omega
      · show _ = t + 30
        dsimp only
        repeat (first | rw [up_o2 (by omega)] | rw [up_e2 (by omega)] | rw [rwR_ne (by omega)] | rw [rwR_i2 (by omega) (by omega)])
        try omega
      · show _ = t + 31
        dsimp only
        repeat (first | rw [up_o2 (by omega)] | rw [up_e2 (by omega)] | rw [rwR_ne (by omega)] | rw [rwR_i2 (by omega) (by omega)])
        try omega
      · show _ = t + 32
        dsimp only
        repeat (first | rw [up_o2 (by omega)] | rw [up_e2 (by omega)] | rw [rwR_ne (by omega)] | rw [rwR_i2 (by omega) (by omega)])
        try omega
      · show _ = t + 33
        dsimp only
        repeat (first | rw [up_o2 (by omega)] | rw [up_e2 (by omega)] | rw [rwR_ne (by omega)] | rw [rwR_i2 (by omega) (by omega)])
        try omega
      · show _ = t + 34
        dsimp only
        repeat (first | rw [up_o2 (by omega)] | rw [up_e2 (by omega)] | rw [rwR_ne (by omega)] | rw [rwR_i2 (by omega) (by omega)])
        try omega
      · show _ = t + 35
        dsimp only
        repeat (first | rw [up_o2 (by omega)] | rw [up_e2 (by omega)] | rw [rwR_ne (by omega)] | rw [rwR_i2 (by omega) (by omega)])
        try omega
      · show _ = t + 36
        dsimp only
        repeat (first | rw [up_o2 (by omega)] | rw [up_e2 (by omega)] | rw [rwR_ne (by omega)] | rw [rwR_i2 (by omega) (by omega)])
        try omega
      · show _ = t + 37
        dsimp only
        repeat (first | rw [up_o2 (by omega)] | rw [up_e2 (by omega)] | rw [rwR_ne (by omega)] | rw [rwR_i2 (by omega) (by omega)])
        try omega
  · repeat (first | rw [up_o2 (by omega)] | rw [up_e2 (by omega)] | rw [rwR_ne (by omega)])
  · refine g5.mono (by omega) (fun a h1 h2 => ?_) (fun a i h1 h2 => ?_)
    · simp only [shu, shA]
      repeat (first | rw [if_neg (by omega)])
    · repeat (first | rw [up_o2 (by omega)] | rw [rwR_ne (by omega)])
  · simp only [shu, shA]
    repeat (first | rw [if_neg (by omega)])
    exact hs5 b (by omega)
  · repeat (first | rw [up_o2 (by omega)] | rw [rwR_ne (by omega)])
    exact r5 b i (by omega)
end CTOR4
