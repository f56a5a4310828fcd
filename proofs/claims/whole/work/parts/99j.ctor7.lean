/-! THE REFERENCE'S CONSTRUCTOR -/
section CTOR7
variable {l : Launch} {E : qEv} {n : Nat} {sh : qSh} {I L : qI} {R : qR}
theorem ct_X7_init {m : Nat} (hb : 0 < E.2.2) (ho : isC E.2.2 n sh m 11 0) (hn : E.2.2 + n = m + 1) (hz : qZr (E.2.2 + n) I L R) :
    Ct l E 1 mX7_init [.ref m] (n, sh, I, L, R) 35 2245 (fun r S' => r = none ∧ ∃ sh' R', S' = (n + 35, sh', (up (up (up (up I (m + 1) 0 (-9)) (m + 1) 1 (-9)) (m + 1) 2 (-9)) (m + 1) 3 (-9)), L, R') ∧ qMod E.2.2 (n + 35) sh' R' m ∧ (∀ b, b < m + 1 → sh' b = sh b) ∧ ∀ b i, ¬ (m ≤ b ∧ b < m + 36) → R' b i = R b i) := by
  refine Ct.of (lo := [(0, _)]) ok_X7_init (Nat.le_of_ble_eq_true rfl) rfl ?_
  have ho0 := ho
  have ho1 := ho.1
  refine wk_aload_n (i := 0) (q := 1) dX7_init_0 rfl rfl rfl ?_
  refine wk_obj (q := 4) dX7_init_1 rfl (qtb_in 792 (by decide +kernel) (by decide +kernel)) (qtb_in 93 (by decide +kernel) (by decide +kernel)) (qtb_in 94 (by decide +kernel) (by decide +kernel)) (Nat.le_of_ble_eq_true rfl) (Nat.le_of_ble_eq_true rfl) ?_
  refine wk_aload_n (i := 0) (q := 5) dX7_init_4 rfl rfl rfl ?_
  refine wk_iconst (q := 6) dX7_init_5 rfl ?_
  refine wk_newI (z := 4) (q := 8) dX7_init_6 rfl (qtb_in 160 (by decide +kernel) (by decide +kernel)) rfl (by decide) hz (Nat.le_of_ble_eq_true rfl) (Nat.le_of_ble_eq_true rfl) ?_
  have hz := hz.up1
  have ho := ho.sh1 (v := (0, 4))
  refine wk_dup (q := 9) dX7_init_8 rfl rfl ?_
  refine wk_iconst (q := 10) dX7_init_9 rfl ?_
  refine wk_bipush (q := 12) dX7_init_10 rfl (by decide +kernel) ?_
  refine wk_iast (q := 13) dX7_init_12 rfl (isC.nw (by decide)) (by omega) ?_
  have hz := hz.upI (i := 0) (v := -9) (show E.2.2 + n < E.2.2 + (n + 1) by omega)
  refine wk_dup (q := 14) dX7_init_13 rfl rfl ?_
  refine wk_iconst (q := 15) dX7_init_14 rfl ?_
  refine wk_bipush (q := 17) dX7_init_15 rfl (by decide +kernel) ?_
  refine wk_iast (q := 18) dX7_init_17 rfl (isC.nw (by decide)) (by omega) ?_
  have hz := hz.upI (i := 1) (v := -9) (show E.2.2 + n < E.2.2 + (n + 1) by omega)
  refine wk_dup (q := 19) dX7_init_18 rfl rfl ?_
  refine wk_iconst (q := 20) dX7_init_19 rfl ?_
  refine wk_bipush (q := 22) dX7_init_20 rfl (by decide +kernel) ?_
  refine wk_iast (q := 23) dX7_init_22 rfl (isC.nw (by decide)) (by omega) ?_
  have hz := hz.upI (i := 2) (v := -9) (show E.2.2 + n < E.2.2 + (n + 1) by omega)
  refine wk_dup (q := 24) dX7_init_23 rfl rfl ?_
  refine wk_iconst (q := 25) dX7_init_24 rfl ?_
  refine wk_bipush (q := 27) dX7_init_25 rfl (by decide +kernel) ?_
  refine wk_iast (q := 28) dX7_init_27 rfl (isC.nw (by decide)) (by omega) ?_
  have hz := hz.upI (i := 3) (v := -9) (show E.2.2 + n < E.2.2 + (n + 1) by omega)
  refine wk_putF (fi := 2) (q := 31) dX7_init_28 rfl fl_X7_9 ⟨_, _, _, rfl, rfl, rfl⟩ rfl rfl (by omega) rfl ho ?_
  have hz := hz.upR (i := 2) (v := E.2.2 + n) (show m < _ by omega)
  refine wk_aload_n (i := 0) (q := 32) dX7_init_31 rfl rfl rfl ?_
  refine wk_iconst (q := 33) dX7_init_32 rfl ?_
  refine wk_newI (z := 4) (q := 35) dX7_init_33 rfl (qtb_in 160 (by decide +kernel) (by decide +kernel)) rfl (by decide) hz (Nat.le_of_ble_eq_true rfl) (Nat.le_of_ble_eq_true rfl) ?_
  have hz := hz.up1
  have ho := ho.sh1 (v := (0, 4))
  refine wk_putF (fi := 3) (q := 38) dX7_init_35 rfl fl_X7_13 ⟨_, _, _, rfl, rfl, rfl⟩ rfl rfl (by omega) rfl ho ?_
  have hz := hz.upR (i := 3) (v := E.2.2 + (n + 1)) (show m < _ by omega)
  refine wk_aload_n (i := 0) (q := 39) dX7_init_38 rfl rfl rfl ?_
  refine wk_sipush (q := 42) dX7_init_39 rfl (by decide +kernel) ?_
  refine wk_newI (z := 400) (q := 44) dX7_init_42 rfl (qtb_in 160 (by decide +kernel) (by decide +kernel)) rfl (by decide) hz (Nat.le_of_ble_eq_true rfl) (Nat.le_of_ble_eq_true rfl) ?_
  have hz := hz.up1
  have ho := ho.sh1 (v := (0, 400))
  refine wk_putF (fi := 4) (q := 47) dX7_init_44 rfl fl_X7_16 ⟨_, _, _, rfl, rfl, rfl⟩ rfl rfl (by omega) rfl ho ?_
  have hz := hz.upR (i := 4) (v := E.2.2 + ((n + 1) + 1)) (show m < _ by omega)
  refine wk_aload_n (i := 0) (q := 48) dX7_init_47 rfl rfl rfl ?_
  refine wk_bipush (q := 50) dX7_init_48 rfl (by decide +kernel) ?_
  refine wk_newI (z := 6) (q := 52) dX7_init_50 rfl (qtb_in 160 (by decide +kernel) (by decide +kernel)) rfl (by decide) hz (Nat.le_of_ble_eq_true rfl) (Nat.le_of_ble_eq_true rfl) ?_
  have hz := hz.up1
  have ho := ho.sh1 (v := (0, 6))
  refine wk_putF (fi := 7) (q := 55) dX7_init_52 rfl fl_X7_19 ⟨_, _, _, rfl, rfl, rfl⟩ rfl rfl (by omega) rfl ho ?_
  have hz := hz.upR (i := 7) (v := E.2.2 + (((n + 1) + 1) + 1)) (show m < _ by omega)
  refine wk_aload_n (i := 0) (q := 56) dX7_init_55 rfl rfl rfl ?_
  refine wk_bipush (q := 58) dX7_init_56 rfl (by decide +kernel) ?_
  refine wk_newI (z := 6) (q := 60) dX7_init_58 rfl (qtb_in 160 (by decide +kernel) (by decide +kernel)) rfl (by decide) hz (Nat.le_of_ble_eq_true rfl) (Nat.le_of_ble_eq_true rfl) ?_
  have hz := hz.up1
  have ho := ho.sh1 (v := (0, 6))
  refine wk_putF (fi := 8) (q := 63) dX7_init_60 rfl fl_X7_22 ⟨_, _, _, rfl, rfl, rfl⟩ rfl rfl (by omega) rfl ho ?_
  have hz := hz.upR (i := 8) (v := E.2.2 + ((((n + 1) + 1) + 1) + 1)) (show m < _ by omega)
  refine wk_aload_n (i := 0) (q := 64) dX7_init_63 rfl rfl rfl ?_
  refine wk_bipush (q := 66) dX7_init_64 rfl (by decide +kernel) ?_
  refine wk_newI (z := 7) (q := 68) dX7_init_66 rfl (qtb_in 160 (by decide +kernel) (by decide +kernel)) rfl (by decide) hz (Nat.le_of_ble_eq_true rfl) (Nat.le_of_ble_eq_true rfl) ?_
  have hz := hz.up1
  have ho := ho.sh1 (v := (0, 7))
  refine wk_putF (fi := 9) (q := 71) dX7_init_68 rfl fl_X7_25 ⟨_, _, _, rfl, rfl, rfl⟩ rfl rfl (by omega) rfl ho ?_
  have hz := hz.upR (i := 9) (v := E.2.2 + (((((n + 1) + 1) + 1) + 1) + 1)) (show m < _ by omega)
  refine wk_aload_n (i := 0) (q := 72) dX7_init_71 rfl rfl rfl ?_
  refine wk_bipush (q := 74) dX7_init_72 rfl (by decide +kernel) ?_
  refine wk_newI (z := 7) (q := 76) dX7_init_74 rfl (qtb_in 160 (by decide +kernel) (by decide +kernel)) rfl (by decide) hz (Nat.le_of_ble_eq_true rfl) (Nat.le_of_ble_eq_true rfl) ?_
  have hz := hz.up1
  have ho := ho.sh1 (v := (0, 7))
  refine wk_putF (fi := 10) (q := 79) dX7_init_76 rfl fl_X7_28 ⟨_, _, _, rfl, rfl, rfl⟩ rfl rfl (by omega) rfl ho ?_
  have hz := hz.upR (i := 10) (v := E.2.2 + ((((((n + 1) + 1) + 1) + 1) + 1) + 1)) (show m < _ by omega)
  refine wk_aload_n (i := 0) (q := 80) dX7_init_79 rfl rfl rfl ?_
  refine wk_bipush (q := 82) dX7_init_80 rfl (by decide +kernel) ?_
  refine wk_newI (z := 7) (q := 84) dX7_init_82 rfl (qtb_in 160 (by decide +kernel) (by decide +kernel)) rfl (by decide) hz (Nat.le_of_ble_eq_true rfl) (Nat.le_of_ble_eq_true rfl) ?_
  have hz := hz.up1
  have ho := ho.sh1 (v := (0, 7))
  refine wk_putF (fi := 11) (q := 87) dX7_init_84 rfl fl_X7_31 ⟨_, _, _, rfl, rfl, rfl⟩ rfl rfl (by omega) rfl ho ?_
  have hz := hz.upR (i := 11) (v := E.2.2 + (((((((n + 1) + 1) + 1) + 1) + 1) + 1) + 1)) (show m < _ by omega)
  refine wk_aload_n (i := 0) (q := 88) dX7_init_87 rfl rfl rfl ?_
  refine wk_bipush (q := 90) dX7_init_88 rfl (by decide +kernel) ?_
  refine wk_newI (z := 42) (q := 92) dX7_init_90 rfl (qtb_in 160 (by decide +kernel) (by decide +kernel)) rfl (by decide) hz (Nat.le_of_ble_eq_true rfl) (Nat.le_of_ble_eq_true rfl) ?_
  have hz := hz.up1
  have ho := ho.sh1 (v := (0, 42))
  refine wk_putF (fi := 12) (q := 95) dX7_init_92 rfl fl_X7_34 ⟨_, _, _, rfl, rfl, rfl⟩ rfl rfl (by omega) rfl ho ?_
  have hz := hz.upR (i := 12) (v := E.2.2 + ((((((((n + 1) + 1) + 1) + 1) + 1) + 1) + 1) + 1)) (show m < _ by omega)
  refine wk_aload_n (i := 0) (q := 96) dX7_init_95 rfl rfl rfl ?_
  refine wk_bipush (q := 98) dX7_init_96 rfl (by decide +kernel) ?_
  refine wk_newI (z := 42) (q := 100) dX7_init_98 rfl (qtb_in 160 (by decide +kernel) (by decide +kernel)) rfl (by decide) hz (Nat.le_of_ble_eq_true rfl) (Nat.le_of_ble_eq_true rfl) ?_
  have hz := hz.up1
  have ho := ho.sh1 (v := (0, 42))
  refine wk_putF (fi := 13) (q := 103) dX7_init_100 rfl fl_X7_37 ⟨_, _, _, rfl, rfl, rfl⟩ rfl rfl (by omega) rfl ho ?_
  have hz := hz.upR (i := 13) (v := E.2.2 + (((((((((n + 1) + 1) + 1) + 1) + 1) + 1) + 1) + 1) + 1)) (show m < _ by omega)
  refine wk_aload_n (i := 0) (q := 104) dX7_init_103 rfl rfl rfl ?_
  refine wk_bipush (q := 106) dX7_init_104 rfl (by decide +kernel) ?_
  refine wk_newI (z := 7) (q := 108) dX7_init_106 rfl (qtb_in 160 (by decide +kernel) (by decide +kernel)) rfl (by decide) hz (Nat.le_of_ble_eq_true rfl) (Nat.le_of_ble_eq_true rfl) ?_
  have hz := hz.up1
  have ho := ho.sh1 (v := (0, 7))
  refine wk_putF (fi := 14) (q := 111) dX7_init_108 rfl fl_X7_40 ⟨_, _, _, rfl, rfl, rfl⟩ rfl rfl (by omega) rfl ho ?_
  have hz := hz.upR (i := 14) (v := E.2.2 + ((((((((((n + 1) + 1) + 1) + 1) + 1) + 1) + 1) + 1) + 1) + 1)) (show m < _ by omega)
  refine wk_aload_n (i := 0) (q := 112) dX7_init_111 rfl rfl rfl ?_
  refine wk_bipush (q := 114) dX7_init_112 rfl (by decide +kernel) ?_
  refine wk_newI (z := 7) (q := 116) dX7_init_114 rfl (qtb_in 160 (by decide +kernel) (by decide +kernel)) rfl (by decide) hz (Nat.le_of_ble_eq_true rfl) (Nat.le_of_ble_eq_true rfl) ?_
  have hz := hz.up1
  have ho := ho.sh1 (v := (0, 7))
  refine wk_putF (fi := 15) (q := 119) dX7_init_116 rfl fl_X7_43 ⟨_, _, _, rfl, rfl, rfl⟩ rfl rfl (by omega) rfl ho ?_
  have hz := hz.upR (i := 15) (v := E.2.2 + (((((((((((n + 1) + 1) + 1) + 1) + 1) + 1) + 1) + 1) + 1) + 1) + 1)) (show m < _ by omega)
  refine wk_aload_n (i := 0) (q := 120) dX7_init_119 rfl rfl rfl ?_
  refine wk_bipush (q := 122) dX7_init_120 rfl (by decide +kernel) ?_
  refine wk_newI (z := 6) (q := 124) dX7_init_122 rfl (qtb_in 160 (by decide +kernel) (by decide +kernel)) rfl (by decide) hz (Nat.le_of_ble_eq_true rfl) (Nat.le_of_ble_eq_true rfl) ?_
  have hz := hz.up1
  have ho := ho.sh1 (v := (0, 6))
  refine wk_putF (fi := 22) (q := 127) dX7_init_124 rfl fl_X7_46 ⟨_, _, _, rfl, rfl, rfl⟩ rfl rfl (by omega) rfl ho ?_
  have hz := hz.upR (i := 22) (v := E.2.2 + ((((((((((((n + 1) + 1) + 1) + 1) + 1) + 1) + 1) + 1) + 1) + 1) + 1) + 1)) (show m < _ by omega)
  refine wk_aload_n (i := 0) (q := 128) dX7_init_127 rfl rfl rfl ?_
  refine wk_bipush (q := 130) dX7_init_128 rfl (by decide +kernel) ?_
  refine wk_newI (z := 6) (q := 132) dX7_init_130 rfl (qtb_in 160 (by decide +kernel) (by decide +kernel)) rfl (by decide) hz (Nat.le_of_ble_eq_true rfl) (Nat.le_of_ble_eq_true rfl) ?_
  have hz := hz.up1
  have ho := ho.sh1 (v := (0, 6))
  refine wk_putF (fi := 23) (q := 135) dX7_init_132 rfl fl_X7_49 ⟨_, _, _, rfl, rfl, rfl⟩ rfl rfl (by omega) rfl ho ?_
  have hz := hz.upR (i := 23) (v := E.2.2 + (((((((((((((n + 1) + 1) + 1) + 1) + 1) + 1) + 1) + 1) + 1) + 1) + 1) + 1) + 1)) (show m < _ by omega)
  refine wk_aload_n (i := 0) (q := 136) dX7_init_135 rfl rfl rfl ?_
  refine wk_bipush (q := 138) dX7_init_136 rfl (by decide +kernel) ?_
  refine wk_newI (z := 7) (q := 140) dX7_init_138 rfl (qtb_in 160 (by decide +kernel) (by decide +kernel)) rfl (by decide) hz (Nat.le_of_ble_eq_true rfl) (Nat.le_of_ble_eq_true rfl) ?_
  have hz := hz.up1
  have ho := ho.sh1 (v := (0, 7))
  refine wk_putF (fi := 24) (q := 143) dX7_init_140 rfl fl_X7_52 ⟨_, _, _, rfl, rfl, rfl⟩ rfl rfl (by omega) rfl ho ?_
  have hz := hz.upR (i := 24) (v := E.2.2 + ((((((((((((((n + 1) + 1) + 1) + 1) + 1) + 1) + 1) + 1) + 1) + 1) + 1) + 1) + 1) + 1)) (show m < _ by omega)
  refine wk_aload_n (i := 0) (q := 144) dX7_init_143 rfl rfl rfl ?_
  refine wk_bipush (q := 146) dX7_init_144 rfl (by decide +kernel) ?_
  refine wk_newI (z := 7) (q := 148) dX7_init_146 rfl (qtb_in 160 (by decide +kernel) (by decide +kernel)) rfl (by decide) hz (Nat.le_of_ble_eq_true rfl) (Nat.le_of_ble_eq_true rfl) ?_
  have hz := hz.up1
  have ho := ho.sh1 (v := (0, 7))
  refine wk_putF (fi := 25) (q := 151) dX7_init_148 rfl fl_X7_55 ⟨_, _, _, rfl, rfl, rfl⟩ rfl rfl (by omega) rfl ho ?_
  have hz := hz.upR (i := 25) (v := E.2.2 + (((((((((((((((n + 1) + 1) + 1) + 1) + 1) + 1) + 1) + 1) + 1) + 1) + 1) + 1) + 1) + 1) + 1)) (show m < _ by omega)
  refine wk_aload_n (i := 0) (q := 152) dX7_init_151 rfl rfl rfl ?_
  refine wk_bipush (q := 154) dX7_init_152 rfl (by decide +kernel) ?_
  refine wk_newI (z := 7) (q := 156) dX7_init_154 rfl (qtb_in 160 (by decide +kernel) (by decide +kernel)) rfl (by decide) hz (Nat.le_of_ble_eq_true rfl) (Nat.le_of_ble_eq_true rfl) ?_
  have hz := hz.up1
  have ho := ho.sh1 (v := (0, 7))
  refine wk_putF (fi := 26) (q := 159) dX7_init_156 rfl fl_X7_58 ⟨_, _, _, rfl, rfl, rfl⟩ rfl rfl (by omega) rfl ho ?_
  have hz := hz.upR (i := 26) (v := E.2.2 + ((((((((((((((((n + 1) + 1) + 1) + 1) + 1) + 1) + 1) + 1) + 1) + 1) + 1) + 1) + 1) + 1) + 1) + 1)) (show m < _ by omega)
  refine wk_aload_n (i := 0) (q := 160) dX7_init_159 rfl rfl rfl ?_
  refine wk_bipush (q := 162) dX7_init_160 rfl (by decide +kernel) ?_
  refine wk_newI (z := 42) (q := 164) dX7_init_162 rfl (qtb_in 160 (by decide +kernel) (by decide +kernel)) rfl (by decide) hz (Nat.le_of_ble_eq_true rfl) (Nat.le_of_ble_eq_true rfl) ?_
  have hz := hz.up1
  have ho := ho.sh1 (v := (0, 42))
  refine wk_putF (fi := 27) (q := 167) dX7_init_164 rfl fl_X7_61 ⟨_, _, _, rfl, rfl, rfl⟩ rfl rfl (by omega) rfl ho ?_
  have hz := hz.upR (i := 27) (v := E.2.2 + (((((((((((((((((n + 1) + 1) + 1) + 1) + 1) + 1) + 1) + 1) + 1) + 1) + 1) + 1) + 1) + 1) + 1) + 1) + 1)) (show m < _ by omega)
  refine wk_aload_n (i := 0) (q := 168) dX7_init_167 rfl rfl rfl ?_
  refine wk_bipush (q := 170) dX7_init_168 rfl (by decide +kernel) ?_
  refine wk_newI (z := 7) (q := 172) dX7_init_170 rfl (qtb_in 160 (by decide +kernel) (by decide +kernel)) rfl (by decide) hz (Nat.le_of_ble_eq_true rfl) (Nat.le_of_ble_eq_true rfl) ?_
  have hz := hz.up1
  have ho := ho.sh1 (v := (0, 7))
  refine wk_putF (fi := 29) (q := 175) dX7_init_172 rfl fl_X7_64 ⟨_, _, _, rfl, rfl, rfl⟩ rfl rfl (by omega) rfl ho ?_
  have hz := hz.upR (i := 29) (v := E.2.2 + ((((((((((((((((((n + 1) + 1) + 1) + 1) + 1) + 1) + 1) + 1) + 1) + 1) + 1) + 1) + 1) + 1) + 1) + 1) + 1) + 1)) (show m < _ by omega)
  refine wk_aload_n (i := 0) (q := 176) dX7_init_175 rfl rfl rfl ?_
  refine wk_bipush (q := 178) dX7_init_176 rfl (by decide +kernel) ?_
  refine wk_newI (z := 7) (q := 180) dX7_init_178 rfl (qtb_in 160 (by decide +kernel) (by decide +kernel)) rfl (by decide) hz (Nat.le_of_ble_eq_true rfl) (Nat.le_of_ble_eq_true rfl) ?_
  have hz := hz.up1
  have ho := ho.sh1 (v := (0, 7))
  refine wk_putF (fi := 31) (q := 183) dX7_init_180 rfl fl_X7_67 ⟨_, _, _, rfl, rfl, rfl⟩ rfl rfl (by omega) rfl ho ?_
  have hz := hz.upR (i := 31) (v := E.2.2 + (((((((((((((((((((n + 1) + 1) + 1) + 1) + 1) + 1) + 1) + 1) + 1) + 1) + 1) + 1) + 1) + 1) + 1) + 1) + 1) + 1) + 1)) (show m < _ by omega)
  refine wk_aload_n (i := 0) (q := 184) dX7_init_183 rfl rfl rfl ?_
  refine wk_bipush (q := 186) dX7_init_184 rfl (by decide +kernel) ?_
  refine wk_newI (z := 7) (q := 188) dX7_init_186 rfl (qtb_in 160 (by decide +kernel) (by decide +kernel)) rfl (by decide) hz (Nat.le_of_ble_eq_true rfl) (Nat.le_of_ble_eq_true rfl) ?_
  have hz := hz.up1
  have ho := ho.sh1 (v := (0, 7))
  refine wk_putF (fi := 32) (q := 191) dX7_init_188 rfl fl_X7_70 ⟨_, _, _, rfl, rfl, rfl⟩ rfl rfl (by omega) rfl ho ?_
  have hz := hz.upR (i := 32) (v := E.2.2 + ((((((((((((((((((((n + 1) + 1) + 1) + 1) + 1) + 1) + 1) + 1) + 1) + 1) + 1) + 1) + 1) + 1) + 1) + 1) + 1) + 1) + 1) + 1)) (show m < _ by omega)
  refine wk_aload_n (i := 0) (q := 192) dX7_init_191 rfl rfl rfl ?_
  refine wk_bipush (q := 194) dX7_init_192 rfl (by decide +kernel) ?_
  refine wk_newI (z := 56) (q := 196) dX7_init_194 rfl (qtb_in 160 (by decide +kernel) (by decide +kernel)) rfl (by decide) hz (Nat.le_of_ble_eq_true rfl) (Nat.le_of_ble_eq_true rfl) ?_
  have hz := hz.up1
  have ho := ho.sh1 (v := (0, 56))
  refine wk_putF (fi := 34) (q := 199) dX7_init_196 rfl fl_X7_73 ⟨_, _, _, rfl, rfl, rfl⟩ rfl rfl (by omega) rfl ho ?_
  have hz := hz.upR (i := 34) (v := E.2.2 + (((((((((((((((((((((n + 1) + 1) + 1) + 1) + 1) + 1) + 1) + 1) + 1) + 1) + 1) + 1) + 1) + 1) + 1) + 1) + 1) + 1) + 1) + 1) + 1)) (show m < _ by omega)
  refine wk_aload_n (i := 0) (q := 200) dX7_init_199 rfl rfl rfl ?_
  refine wk_bipush (q := 202) dX7_init_200 rfl (by decide +kernel) ?_
  refine wk_newI (z := 7) (q := 204) dX7_init_202 rfl (qtb_in 160 (by decide +kernel) (by decide +kernel)) rfl (by decide) hz (Nat.le_of_ble_eq_true rfl) (Nat.le_of_ble_eq_true rfl) ?_
  have hz := hz.up1
  have ho := ho.sh1 (v := (0, 7))
  refine wk_putF (fi := 35) (q := 207) dX7_init_204 rfl fl_X7_76 ⟨_, _, _, rfl, rfl, rfl⟩ rfl rfl (by omega) rfl ho ?_
  have hz := hz.upR (i := 35) (v := E.2.2 + ((((((((((((((((((((((n + 1) + 1) + 1) + 1) + 1) + 1) + 1) + 1) + 1) + 1) + 1) + 1) + 1) + 1) + 1) + 1) + 1) + 1) + 1) + 1) + 1) + 1)) (show m < _ by omega)
  refine wk_aload_n (i := 0) (q := 208) dX7_init_207 rfl rfl rfl ?_
  refine wk_bipush (q := 210) dX7_init_208 rfl (by decide +kernel) ?_
  refine wk_newI (z := 7) (q := 212) dX7_init_210 rfl (qtb_in 160 (by decide +kernel) (by decide +kernel)) rfl (by decide) hz (Nat.le_of_ble_eq_true rfl) (Nat.le_of_ble_eq_true rfl) ?_
  have hz := hz.up1
  have ho := ho.sh1 (v := (0, 7))
  refine wk_putF (fi := 36) (q := 215) dX7_init_212 rfl fl_X7_79 ⟨_, _, _, rfl, rfl, rfl⟩ rfl rfl (by omega) rfl ho ?_
  have hz := hz.upR (i := 36) (v := E.2.2 + (((((((((((((((((((((((n + 1) + 1) + 1) + 1) + 1) + 1) + 1) + 1) + 1) + 1) + 1) + 1) + 1) + 1) + 1) + 1) + 1) + 1) + 1) + 1) + 1) + 1) + 1)) (show m < _ by omega)
  refine wk_aload_n (i := 0) (q := 216) dX7_init_215 rfl rfl rfl ?_
  refine wk_bipush (q := 218) dX7_init_216 rfl (by decide +kernel) ?_
  refine wk_newI (z := 6) (q := 220) dX7_init_218 rfl (qtb_in 160 (by decide +kernel) (by decide +kernel)) rfl (by decide) hz (Nat.le_of_ble_eq_true rfl) (Nat.le_of_ble_eq_true rfl) ?_
  have hz := hz.up1
  have ho := ho.sh1 (v := (0, 6))
  refine wk_putF (fi := 37) (q := 223) dX7_init_220 rfl fl_X7_82 ⟨_, _, _, rfl, rfl, rfl⟩ rfl rfl (by omega) rfl ho ?_
  have hz := hz.upR (i := 37) (v := E.2.2 + ((((((((((((((((((((((((n + 1) + 1) + 1) + 1) + 1) + 1) + 1) + 1) + 1) + 1) + 1) + 1) + 1) + 1) + 1) + 1) + 1) + 1) + 1) + 1) + 1) + 1) + 1) + 1)) (show m < _ by omega)
  refine wk_aload_n (i := 0) (q := 224) dX7_init_223 rfl rfl rfl ?_
  refine wk_bipush (q := 226) dX7_init_224 rfl (by decide +kernel) ?_
  refine wk_newI (z := 7) (q := 228) dX7_init_226 rfl (qtb_in 160 (by decide +kernel) (by decide +kernel)) rfl (by decide) hz (Nat.le_of_ble_eq_true rfl) (Nat.le_of_ble_eq_true rfl) ?_
  have hz := hz.up1
  have ho := ho.sh1 (v := (0, 7))
  refine wk_putF (fi := 38) (q := 231) dX7_init_228 rfl fl_X7_85 ⟨_, _, _, rfl, rfl, rfl⟩ rfl rfl (by omega) rfl ho ?_
  have hz := hz.upR (i := 38) (v := E.2.2 + (((((((((((((((((((((((((n + 1) + 1) + 1) + 1) + 1) + 1) + 1) + 1) + 1) + 1) + 1) + 1) + 1) + 1) + 1) + 1) + 1) + 1) + 1) + 1) + 1) + 1) + 1) + 1) + 1)) (show m < _ by omega)
  refine wk_aload_n (i := 0) (q := 232) dX7_init_231 rfl rfl rfl ?_
  refine wk_bipush (q := 234) dX7_init_232 rfl (by decide +kernel) ?_
  refine wk_newI (z := 7) (q := 236) dX7_init_234 rfl (qtb_in 160 (by decide +kernel) (by decide +kernel)) rfl (by decide) hz (Nat.le_of_ble_eq_true rfl) (Nat.le_of_ble_eq_true rfl) ?_
  have hz := hz.up1
  have ho := ho.sh1 (v := (0, 7))
  refine wk_putF (fi := 39) (q := 239) dX7_init_236 rfl fl_X7_88 ⟨_, _, _, rfl, rfl, rfl⟩ rfl rfl (by omega) rfl ho ?_
  have hz := hz.upR (i := 39) (v := E.2.2 + ((((((((((((((((((((((((((n + 1) + 1) + 1) + 1) + 1) + 1) + 1) + 1) + 1) + 1) + 1) + 1) + 1) + 1) + 1) + 1) + 1) + 1) + 1) + 1) + 1) + 1) + 1) + 1) + 1) + 1)) (show m < _ by omega)
  refine wk_aload_n (i := 0) (q := 240) dX7_init_239 rfl rfl rfl ?_
  refine wk_bipush (q := 242) dX7_init_240 rfl (by decide +kernel) ?_
  refine wk_newI (z := 7) (q := 244) dX7_init_242 rfl (qtb_in 160 (by decide +kernel) (by decide +kernel)) rfl (by decide) hz (Nat.le_of_ble_eq_true rfl) (Nat.le_of_ble_eq_true rfl) ?_
  have hz := hz.up1
  have ho := ho.sh1 (v := (0, 7))
  refine wk_putF (fi := 40) (q := 247) dX7_init_244 rfl fl_X7_91 ⟨_, _, _, rfl, rfl, rfl⟩ rfl rfl (by omega) rfl ho ?_
  have hz := hz.upR (i := 40) (v := E.2.2 + (((((((((((((((((((((((((((n + 1) + 1) + 1) + 1) + 1) + 1) + 1) + 1) + 1) + 1) + 1) + 1) + 1) + 1) + 1) + 1) + 1) + 1) + 1) + 1) + 1) + 1) + 1) + 1) + 1) + 1) + 1)) (show m < _ by omega)
  refine wk_aload_n (i := 0) (q := 248) dX7_init_247 rfl rfl rfl ?_
  refine wk_bipush (q := 250) dX7_init_248 rfl (by decide +kernel) ?_
  refine wk_newI (z := 8) (q := 252) dX7_init_250 rfl (qtb_in 160 (by decide +kernel) (by decide +kernel)) rfl (by decide) hz (Nat.le_of_ble_eq_true rfl) (Nat.le_of_ble_eq_true rfl) ?_
  have hz := hz.up1
  have ho := ho.sh1 (v := (0, 8))
  refine wk_putF (fi := 41) (q := 255) dX7_init_252 rfl fl_X7_94 ⟨_, _, _, rfl, rfl, rfl⟩ rfl rfl (by omega) rfl ho ?_
  have hz := hz.upR (i := 41) (v := E.2.2 + ((((((((((((((((((((((((((((n + 1) + 1) + 1) + 1) + 1) + 1) + 1) + 1) + 1) + 1) + 1) + 1) + 1) + 1) + 1) + 1) + 1) + 1) + 1) + 1) + 1) + 1) + 1) + 1) + 1) + 1) + 1) + 1)) (show m < _ by omega)
  refine wk_aload_n (i := 0) (q := 256) dX7_init_255 rfl rfl rfl ?_
  refine wk_bipush (q := 258) dX7_init_256 rfl (by decide +kernel) ?_
  refine wk_newI (z := 7) (q := 260) dX7_init_258 rfl (qtb_in 160 (by decide +kernel) (by decide +kernel)) rfl (by decide) hz (Nat.le_of_ble_eq_true rfl) (Nat.le_of_ble_eq_true rfl) ?_
  have hz := hz.up1
  have ho := ho.sh1 (v := (0, 7))
  refine wk_putF (fi := 43) (q := 263) dX7_init_260 rfl fl_X7_97 ⟨_, _, _, rfl, rfl, rfl⟩ rfl rfl (by omega) rfl ho ?_
  have hz := hz.upR (i := 43) (v := E.2.2 + (((((((((((((((((((((((((((((n + 1) + 1) + 1) + 1) + 1) + 1) + 1) + 1) + 1) + 1) + 1) + 1) + 1) + 1) + 1) + 1) + 1) + 1) + 1) + 1) + 1) + 1) + 1) + 1) + 1) + 1) + 1) + 1) + 1)) (show m < _ by omega)
  refine wk_aload_n (i := 0) (q := 264) dX7_init_263 rfl rfl rfl ?_
  refine wk_sipush (q := 267) dX7_init_264 rfl (by decide +kernel) ?_
  refine wk_newI (z := 1470) (q := 269) dX7_init_267 rfl (qtb_in 160 (by decide +kernel) (by decide +kernel)) rfl (by decide) hz (Nat.le_of_ble_eq_true rfl) (Nat.le_of_ble_eq_true rfl) ?_
  have hz := hz.up1
  have ho := ho.sh1 (v := (0, 1470))
  refine wk_putF (fi := 44) (q := 272) dX7_init_269 rfl fl_X7_100 ⟨_, _, _, rfl, rfl, rfl⟩ rfl rfl (by omega) rfl ho ?_
  have hz := hz.upR (i := 44) (v := E.2.2 + ((((((((((((((((((((((((((((((n + 1) + 1) + 1) + 1) + 1) + 1) + 1) + 1) + 1) + 1) + 1) + 1) + 1) + 1) + 1) + 1) + 1) + 1) + 1) + 1) + 1) + 1) + 1) + 1) + 1) + 1) + 1) + 1) + 1) + 1)) (show m < _ by omega)
  refine wk_aload_n (i := 0) (q := 273) dX7_init_272 rfl rfl rfl ?_
  refine wk_bipush (q := 275) dX7_init_273 rfl (by decide +kernel) ?_
  refine wk_newI (z := 7) (q := 277) dX7_init_275 rfl (qtb_in 160 (by decide +kernel) (by decide +kernel)) rfl (by decide) hz (Nat.le_of_ble_eq_true rfl) (Nat.le_of_ble_eq_true rfl) ?_
  have hz := hz.up1
  have ho := ho.sh1 (v := (0, 7))
  refine wk_putF (fi := 47) (q := 280) dX7_init_277 rfl fl_X7_103 ⟨_, _, _, rfl, rfl, rfl⟩ rfl rfl (by omega) rfl ho ?_
  have hz := hz.upR (i := 47) (v := E.2.2 + (((((((((((((((((((((((((((((((n + 1) + 1) + 1) + 1) + 1) + 1) + 1) + 1) + 1) + 1) + 1) + 1) + 1) + 1) + 1) + 1) + 1) + 1) + 1) + 1) + 1) + 1) + 1) + 1) + 1) + 1) + 1) + 1) + 1) + 1) + 1)) (show m < _ by omega)
  refine wk_aload_n (i := 0) (q := 281) dX7_init_280 rfl rfl rfl ?_
  refine wk_bipush (q := 283) dX7_init_281 rfl (by decide +kernel) ?_
  refine wk_newI (z := 7) (q := 285) dX7_init_283 rfl (qtb_in 160 (by decide +kernel) (by decide +kernel)) rfl (by decide) hz (Nat.le_of_ble_eq_true rfl) (Nat.le_of_ble_eq_true rfl) ?_
  have hz := hz.up1
  have ho := ho.sh1 (v := (0, 7))
  refine wk_putF (fi := 48) (q := 288) dX7_init_285 rfl fl_X7_106 ⟨_, _, _, rfl, rfl, rfl⟩ rfl rfl (by omega) rfl ho ?_
  have hz := hz.upR (i := 48) (v := E.2.2 + ((((((((((((((((((((((((((((((((n + 1) + 1) + 1) + 1) + 1) + 1) + 1) + 1) + 1) + 1) + 1) + 1) + 1) + 1) + 1) + 1) + 1) + 1) + 1) + 1) + 1) + 1) + 1) + 1) + 1) + 1) + 1) + 1) + 1) + 1) + 1) + 1)) (show m < _ by omega)
  refine wk_aload_n (i := 0) (q := 289) dX7_init_288 rfl rfl rfl ?_
  refine wk_bipush (q := 291) dX7_init_289 rfl (by decide +kernel) ?_
  refine wk_newI (z := 8) (q := 293) dX7_init_291 rfl (qtb_in 160 (by decide +kernel) (by decide +kernel)) rfl (by decide) hz (Nat.le_of_ble_eq_true rfl) (Nat.le_of_ble_eq_true rfl) ?_
  have hz := hz.up1
  have ho := ho.sh1 (v := (0, 8))
  refine wk_putF (fi := 49) (q := 296) dX7_init_293 rfl fl_X7_109 ⟨_, _, _, rfl, rfl, rfl⟩ rfl rfl (by omega) rfl ho ?_
  have hz := hz.upR (i := 49) (v := E.2.2 + (((((((((((((((((((((((((((((((((n + 1) + 1) + 1) + 1) + 1) + 1) + 1) + 1) + 1) + 1) + 1) + 1) + 1) + 1) + 1) + 1) + 1) + 1) + 1) + 1) + 1) + 1) + 1) + 1) + 1) + 1) + 1) + 1) + 1) + 1) + 1) + 1) + 1)) (show m < _ by omega)
  refine wk_aload_n (i := 0) (q := 297) dX7_init_296 rfl rfl rfl ?_
  refine wk_bipush (q := 299) dX7_init_297 rfl (by decide +kernel) ?_
  refine wk_newI (z := 6) (q := 301) dX7_init_299 rfl (qtb_in 160 (by decide +kernel) (by decide +kernel)) rfl (by decide) hz (Nat.le_of_ble_eq_true rfl) (Nat.le_of_ble_eq_true rfl) ?_
  have hz := hz.up1
  have ho := ho.sh1 (v := (0, 6))
  refine wk_putF (fi := 50) (q := 304) dX7_init_301 rfl fl_X7_112 ⟨_, _, _, rfl, rfl, rfl⟩ rfl rfl (by omega) rfl ho ?_
  have hz := hz.upR (i := 50) (v := E.2.2 + ((((((((((((((((((((((((((((((((((n + 1) + 1) + 1) + 1) + 1) + 1) + 1) + 1) + 1) + 1) + 1) + 1) + 1) + 1) + 1) + 1) + 1) + 1) + 1) + 1) + 1) + 1) + 1) + 1) + 1) + 1) + 1) + 1) + 1) + 1) + 1) + 1) + 1) + 1)) (show m < _ by omega)
  refine wk_ret dX7_init_304 rfl ⟨Nat.le_of_ble_eq_true rfl, Nat.le_of_ble_eq_true rfl⟩ rfl ?_
  have e1 : E.2.2 + n = m + 1 := hn
  refine ⟨rfl, _, _, by rw [← e1], ?_, fun b hb1 => ?_, fun b i hb1 => ?_⟩
  · refine ⟨by omega, fun p hp => ?_, fun p hp => ?_⟩
    · simp only [qMod_c, List.mem_cons, List.not_mem_nil, or_false] at hp
      rcases hp with rfl | rfl | rfl | rfl | rfl | rfl | rfl | rfl | rfl | rfl | rfl | rfl | rfl | rfl | rfl | rfl | rfl | rfl | rfl | rfl | rfl | rfl | rfl | rfl | rfl | rfl | rfl | rfl | rfl | rfl | rfl | rfl | rfl | rfl | rfl | rfl
      · refine ⟨by omega, by omega, ?_, by decide⟩
        show _ = ((11, 0) : Nat × Nat)
        simp only [shu, shA]
        repeat (first | rw [if_pos (by omega)] | rw [if_neg (by omega)])
        exact ho0.2.2.1
      · refine ⟨by omega, by omega, ?_, by decide⟩
        show _ = ((0, 4) : Nat × Nat)
        simp only [shu, shA]
        repeat (first | rw [if_pos (by omega)] | rw [if_neg (by omega)])
      · refine ⟨by omega, by omega, ?_, by decide⟩
        show _ = ((0, 4) : Nat × Nat)
        simp only [shu, shA]
        repeat (first | rw [if_pos (by omega)] | rw [if_neg (by omega)])
      · refine ⟨by omega, by omega, ?_, by decide⟩
        show _ = ((0, 400) : Nat × Nat)
        simp only [shu, shA]
        repeat (first | rw [if_pos (by omega)] | rw [if_neg (by omega)])
      · refine ⟨by omega, by omega, ?_, by decide⟩
        show _ = ((0, 6) : Nat × Nat)
        simp only [shu, shA]
        repeat (first | rw [if_pos (by omega)] | rw [if_neg (by omega)])
      · refine ⟨by omega, by omega, ?_, by decide⟩
        show _ = ((0, 6) : Nat × Nat)
        simp only [shu, shA]
        repeat (first | rw [if_pos (by omega)] | rw [if_neg (by omega)])
      · refine ⟨by omega, by omega, ?_, by decide⟩
        show _ = ((0, 7) : Nat × Nat)
        simp only [shu, shA]
        repeat (first | rw [if_pos (by omega)] | rw [if_neg (by omega)])
      · refine ⟨by omega, by omega, ?_, by decide⟩
        show _ = ((0, 7) : Nat × Nat)
        simp only [shu, shA]
        repeat (first | rw [if_pos (by omega)] | rw [if_neg (by omega)])
      · refine ⟨by omega, by omega, ?_, by decide⟩
        show _ = ((0, 7) : Nat × Nat)
        simp only [shu, shA]
        repeat (first | rw [if_pos (by omega)] | rw [if_neg (by omega)])
      · refine ⟨by omega, by omega, ?_, by decide⟩
        show _ = ((0, 42) : Nat × Nat)
        simp only [shu, shA]
        repeat (first | rw [if_pos (by omega)] | rw [if_neg (by omega)])
      · refine ⟨by omega, by omega, ?_, by decide⟩
        show _ = ((0, 42) : Nat × Nat)
        simp only [shu, shA]
        repeat (first | rw [if_pos (by omega)] | rw [if_neg (by omega)])
      · refine ⟨by omega, by omega, ?_, by decide⟩
        show _ = ((0, 7) : Nat × Nat)
        simp only [shu, shA]
        repeat (first | rw [if_pos (by omega)] | rw [if_neg (by omega)])
      · refine ⟨by omega, by omega, ?_, by decide⟩
        show _ = ((0, 7) : Nat × Nat)
        simp only [shu, shA]
        repeat (first | rw [if_pos (by omega)] | rw [if_neg (by omega)])
      · refine ⟨by omega, by omega, ?_, by decide⟩
        show _ = ((0, 6) : Nat × Nat)
        simp only [shu, shA]
        repeat (first | rw [if_pos (by omega)] | rw [if_neg (by omega)])
      · refine ⟨by omega, by omega, ?_, by decide⟩
        show _ = ((0, 6) : Nat × Nat)
        simp only [shu, shA]
        repeat (first | rw [if_pos (by omega)] | rw [if_neg (by omega)])
      · refine ⟨by omega, by omega, ?_, by decide⟩
        show _ = ((0, 7) : Nat × Nat)
        simp only [shu, shA]
        repeat (first | rw [if_pos (by omega)] | rw [if_neg (by omega)])
      · refine ⟨by omega, by omega, ?_, by decide⟩
        show _ = ((0, 7) : Nat × Nat)
        simp only [shu, shA]
        repeat (first | rw [if_pos (by omega)] | rw [if_neg (by omega)])
      · refine ⟨by omega, by omega, ?_, by decide⟩
        show _ = ((0, 7) : Nat × Nat)
        simp only [shu, shA]
        repeat (first | rw [if_pos (by omega)] | rw [if_neg (by omega)])
      · refine ⟨by omega, by omega, ?_, by decide⟩
        show _ = ((0, 42) : Nat × Nat)
        simp only [shu, shA]
        repeat (first | rw [if_pos (by omega)] | rw [if_neg (by omega)])
      · refine ⟨by omega, by omega, ?_, by decide⟩
        show _ = ((0, 7) : Nat × Nat)
        simp only [shu, shA]
        repeat (first | rw [if_pos (by omega)] | rw [if_neg (by omega)])
      · refine ⟨by omega, by omega, ?_, by decide⟩
        show _ = ((0, 7) : Nat × Nat)
        simp only [shu, shA]
        repeat (first | rw [if_pos (by omega)] | rw [if_neg (by omega)])
      · refine ⟨by omega, by omega, ?_, by decide⟩
        show _ = ((0, 7) : Nat × Nat)
        simp only [shu, shA]
        repeat (first | rw [if_pos (by omega)] | rw [if_neg (by omega)])
      · refine ⟨by omega, by omega, ?_, by decide⟩
        show _ = ((0, 56) : Nat × Nat)
        simp only [shu, shA]
        repeat (first | rw [if_pos (by omega)] | rw [if_neg (by omega)])
      · refine ⟨by omega, by omega, ?_, by decide⟩
        show _ = ((0, 7) : Nat × Nat)
        simp only [shu, shA]
        repeat (first | rw [if_pos (by omega)] | rw [if_neg (by omega)])
      · refine ⟨by omega, by omega, ?_, by decide⟩
        show _ = ((0, 7) : Nat × Nat)
        simp only [shu, shA]
        repeat (first | rw [if_pos (by omega)] | rw [if_neg (by omega)])
      · refine ⟨by omega, by omega, ?_, by decide⟩
        show _ = ((0, 6) : Nat × Nat)
        simp only [shu, shA]
        repeat (first | rw [if_pos (by omega)] | rw [if_neg (by omega)])
      · refine ⟨by omega, by omega, ?_, by decide⟩
        show _ = ((0, 7) : Nat × Nat)
        simp only [shu, shA]
        repeat (first | rw [if_pos (by omega)] | rw [if_neg (by omega)])
      · refine ⟨by omega, by omega, ?_, by decide⟩
        show _ = ((0, 7) : Nat × Nat)
        simp only [shu, shA]
        repeat (first | rw [if_pos (by omega)] | rw [if_neg (by omega)])
      · refine ⟨by omega, by omega, ?_, by decide⟩
        show _ = ((0, 7) : Nat × Nat)
        simp only [shu, shA]
        repeat (first | rw [if_pos (by omega)] | rw [if_neg (by omega)])
      · refine ⟨by omega, by omega, ?_, by decide⟩
        show _ = ((0, 8) : Nat × Nat)
        simp only [shu, shA]
        repeat (first | rw [if_pos (by omega)] | rw [if_neg (by omega)])
      · refine ⟨by omega, by omega, ?_, by decide⟩
        show _ = ((0, 7) : Nat × Nat)
        simp only [shu, shA]
        repeat (first | rw [if_pos (by omega)] | rw [if_neg (by omega)])
      · refine ⟨by omega, by omega, ?_, by decide⟩
        show _ = ((0, 1470) : Nat × Nat)
        simp only [shu, shA]
        repeat (first | rw [if_pos (by omega)] | rw [if_neg (by omega)])
      · refine ⟨by omega, by omega, ?_, by decide⟩
        show _ = ((0, 7) : Nat × Nat)
        simp only [shu, shA]
        repeat (first | rw [if_pos (by omega)] | rw [if_neg (by omega)])
      · refine ⟨by omega, by omega, ?_, by decide⟩
        show _ = ((0, 7) : Nat × Nat)
        simp only [shu, shA]
        repeat (first | rw [if_pos (by omega)] | rw [if_neg (by omega)])
      · refine ⟨by omega, by omega, ?_, by decide⟩
        show _ = ((0, 8) : Nat × Nat)
        simp only [shu, shA]
        repeat (first | rw [if_pos (by omega)] | rw [if_neg (by omega)])
      · refine ⟨by omega, by omega, ?_, by decide⟩
        show _ = ((0, 6) : Nat × Nat)
        simp only [shu, shA]
        repeat (first | rw [if_pos (by omega)] | rw [if_neg (by omega)])
    · simp only [qMod_r, List.mem_cons, List.not_mem_nil, or_false] at hp
      rcases hp with rfl | rfl | rfl | rfl | rfl | rfl | rfl | rfl | rfl | rfl | rfl | rfl | rfl | rfl | rfl | rfl | rfl | rfl | rfl | rfl | rfl | rfl | rfl | rfl | rfl | rfl | rfl | rfl | rfl | rfl | rfl | rfl | rfl | rfl | rfl
      · show _ = m + 1
        dsimp only
        repeat (first | rw [up_o2 (by omega)] | rw [up_e2 (by omega)] | rw [rwR_ne (by omega)] | rw [rwR_i2 (by omega) (by omega)])
        try omega
      · show _ = m + 2
        dsimp only
        repeat (first | rw [up_o2 (by omega)] | rw [up_e2 (by omega)] | rw [rwR_ne (by omega)] | rw [rwR_i2 (by omega) (by omega)])
        try omega
      · show _ = m + 3
        dsimp only
        repeat (first | rw [up_o2 (by omega)] | rw [up_e2 (by omega)] | rw [rwR_ne (by omega)] | rw [rwR_i2 (by omega) (by omega)])
        try omega
      · show _ = m + 4
        dsimp only
        repeat (first | rw [up_o2 (by omega)] | rw [up_e2 (by omega)] | rw [rwR_ne (by omega)] | rw [rwR_i2 (by omega) (by omega)])
        try omega
      · show _ = m + 5
        dsimp only
        repeat (first | rw [up_o2 (by omega)] | rw [up_e2 (by omega)] | rw [rwR_ne (by omega)] | rw [rwR_i2 (by omega) (by omega)])
        try omega
      · show _ = m + 6
        dsimp only
        repeat (first | rw [up_o2 (by omega)] | rw [up_e2 (by omega)] | rw [rwR_ne (by omega)] | rw [rwR_i2 (by omega) (by omega)])
        try omega
      · show _ = m + 7
        dsimp only
        repeat (first | rw [up_o2 (by omega)] | rw [up_e2 (by omega)] | rw [rwR_ne (by omega)] | rw [rwR_i2 (by omega) (by omega)])
        try omega
      · show _ = m + 8
        dsimp only
        repeat (first | rw [up_o2 (by omega)] | rw [up_e2 (by omega)] | rw [rwR_ne (by omega)] | rw [rwR_i2 (by omega) (by omega)])
        try omega
      · show _ = m + 9
        dsimp only
        repeat (first | rw [up_o2 (by omega)] | rw [up_e2 (by omega)] | rw [rwR_ne (by omega)] | rw [rwR_i2 (by omega) (by omega)])
        try omega
      · show _ = m + 10
        dsimp only
        repeat (first | rw [up_o2 (by omega)] | rw [up_e2 (by omega)] | rw [rwR_ne (by omega)] | rw [rwR_i2 (by omega) (by omega)])
        try omega
      · show _ = m + 11
        dsimp only
        repeat (first | rw [up_o2 (by omega)] | rw [up_e2 (by omega)] | rw [rwR_ne (by omega)] | rw [rwR_i2 (by omega) (by omega)])
        try omega
      · show _ = m + 12
        dsimp only
        repeat (first | rw [up_o2 (by omega)] | rw [up_e2 (by omega)] | rw [rwR_ne (by omega)] | rw [rwR_i2 (by omega) (by omega)])
        try omega
      · show _ = m + 13
        dsimp only
        repeat (first | rw [up_o2 (by omega)] | rw [up_e2 (by omega)] | rw [rwR_ne (by omega)] | rw [rwR_i2 (by omega) (by omega)])
        try omega
      · show _ = m + 14
        dsimp only
        repeat (first | rw [up_o2 (by omega)] | rw [up_e2 (by omega)] | rw [rwR_ne (by omega)] | rw [rwR_i2 (by omega) (by omega)])
        try omega
      · show _ = m + 15
        dsimp only
        repeat (first | rw [up_o2 (by omega)] | rw [up_e2 (by omega)] | rw [rwR_ne (by omega)] | rw [rwR_i2 (by omega) (by omega)])
        try omega
      · show _ = m + 16
        dsimp only
        repeat (first | rw [up_o2 (by omega)] | rw [up_e2 (by omega)] | rw [rwR_ne (by omega)] | rw [rwR_i2 (by omega) (by omega)])
        try omega
      · show _ = m + 17
        dsimp only
        repeat (first | rw [up_o2 (by omega)] | rw [up_e2 (by omega)] | rw [rwR_ne (by omega)] | rw [rwR_i2 (by omega) (by omega)])
        try omega
      · show _ = m + 18
        dsimp only
        repeat (first | rw [up_o2 (by omega)] | rw [up_e2 (by omega)] | rw [rwR_ne (by omega)] | rw [rwR_i2 (by omega) (by omega)])
        try omega
      · show _ = m + 19
        dsimp only
        repeat (first | rw [up_o2 (by omega)] | rw [up_e2 (by omega)] | rw [rwR_ne (by omega)] | rw [rwR_i2 (by omega) (by omega)])
        try omega
      · show _ = m + 20
        dsimp only
        repeat (first | rw [up_o2 (by omega)] | rw [up_e2 (by omega)] | rw [rwR_ne (by omega)] | rw [rwR_i2 (by omega) (by omega)])
        try omega
      · show _ = m + 21
        dsimp only
        repeat (first | rw [up_o2 (by omega)] | rw [up_e2 (by omega)] | rw [rwR_ne (by omega)] | rw [rwR_i2 (by omega) (by omega)])
        try omega
      · show _ = m + 22
        dsimp only
        repeat (first | rw [up_o2 (by omega)] | rw [up_e2 (by omega)] | rw [rwR_ne (by omega)] | rw [rwR_i2 (by omega) (by omega)])
        try omega
      · show _ = m + 23
        dsimp only
        repeat (first | rw [up_o2 (by omega)] | rw [up_e2 (by omega)] | rw [rwR_ne (by omega)] | rw [rwR_i2 (by omega) (by omega)])
        try omega
      · show _ = m + 24
        dsimp only
        repeat (first | rw [up_o2 (by omega)] | rw [up_e2 (by omega)] | rw [rwR_ne (by omega)] | rw [rwR_i2 (by omega) (by omega)])
        try omega
      · show _ = m + 25
        dsimp only
        repeat (first | rw [up_o2 (by omega)] | rw [up_e2 (by omega)] | rw [rwR_ne (by omega)] | rw [rwR_i2 (by omega) (by omega)])
        try omega
      · show _ = m + 26
        dsimp only
        repeat (first | rw [up_o2 (by omega)] | rw [up_e2 (by omega)] | rw [rwR_ne (by omega)] | rw [rwR_i2 (by omega) (by omega)])
        try omega
      · show _ = m + 27
        dsimp only
        repeat (first | rw [up_o2 (by omega)] | rw [up_e2 (by omega)] | rw [rwR_ne (by omega)] | rw [rwR_i2 (by omega) (by omega)])
        try omega
      · show _ = m + 28
        dsimp only
        repeat (first | rw [up_o2 (by omega)] | rw [up_e2 (by omega)] | rw [rwR_ne (by omega)] | rw [rwR_i2 (by omega) (by omega)])
        try omega
      · show _ = m + 29
        dsimp only
        repeat (first | rw [up_o2 (by omega)] | rw [up_e2 (by omega)] | rw [rwR_ne (by omega)] | rw [rwR_i2 (by omega) (by omega)])
        try omega
      · show _ = m + 30
        dsimp only
        repeat (first | rw [up_o2 (by omega)] | rw [up_e2 (by omega)] | rw [rwR_ne (by omega)] | rw [rwR_i2 (by omega) (by omega)])
        try omega
      · show _ = m + 31
        dsimp only
        repeat (first | rw [up_o2 (by omega)] | rw [up_e2 (by omega)] | rw [rwR_ne (by omega)] | rw [rwR_i2 (by omega) (by omega)])
        try omega
      · show _ = m + 32
        dsimp only
        repeat (first | rw [up_o2 (by omega)] | rw [up_e2 (by omega)] | rw [rwR_ne (by omega)] | rw [rwR_i2 (by omega) (by omega)])
        try omega
      · show _ = m + 33
        dsimp only
        repeat (first | rw [up_o2 (by omega)] | rw [up_e2 (by omega)] | rw [rwR_ne (by omega)] | rw [rwR_i2 (by omega) (by omega)])
        try omega
      · show _ = m + 34
        dsimp only
        repeat (first | rw [up_o2 (by omega)] | rw [up_e2 (by omega)] | rw [rwR_ne (by omega)] | rw [rwR_i2 (by omega) (by omega)])
        try omega
      · show _ = m + 35
        dsimp only
        repeat (first | rw [up_o2 (by omega)] | rw [up_e2 (by omega)] | rw [rwR_ne (by omega)] | rw [rwR_i2 (by omega) (by omega)])
        try omega
  · simp only [shu, shA]
    repeat (first | rw [if_neg (by omega)])
  · simp only [up, rwR]
    repeat (first | rw [if_neg (by omega)])
end CTOR7
