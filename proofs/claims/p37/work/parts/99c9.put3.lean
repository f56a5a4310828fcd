/-! THE LAW's put: dishes, its contract -/
section PUT4
variable {l : Launch} {E : qEv} {n : Nat} {sh : qSh} {I : qI}
theorem pt_dishes {b N : Nat} {xs : Nat → Int32} {x : Nat} {ng nd v7 : Int} (hL : N ≤ 260) (hO : isX E.2.2 n sh x) (cT : isC E.2.2 n sh (x + 167) 0 51) (cW : isC E.2.2 n sh (x + 168) 0 42) (cU : isC E.2.2 n sh (x + 169) 0 42) (hng : 2 ≤ ng ∧ ng ≤ 7) (hnd : 2 ≤ nd ∧ nd ≤ 6)
    (K : ∀ I1 L1 R1 c, PB E.2.2 n sh x I1 L1 R1 c → (∀ q i, (q < x ∨ x + 170 ≤ q) → I1 q i = I q i) → DI I1 x c ng nd nd → Wk l E (qmoS E 3 n 0 0 (qZ n sh (fun v I' L' R' => ∃ c ng nd, (2 ≤ ng ∧ ng ≤ 7) ∧ (2 ≤ nd ∧ nd ≤ 6) ∧ DI I' x c ng nd nd ∧ GI I' x c nd ng.toNat ∧ v = pos (kdf I' x) nd ng.toNat ∧ PB E.2.2 n sh x I' L' R' c ∧ ∀ q i, (q < x ∨ x + 170 ≤ q) → I' q i = I q i)) b N xs) mL_put 0 0 225 [(0, .ref x), (1, .ref b), (2, .int (zI 0)), (3, .int (zI 7)), (4, .ref (x + 167)), (5, .ref (x + 168)), (6, .ref (x + 169)), (7, .int (zI v7)), (8, .int (zI (2 + 2 * nd))), (9, .int (zI nd))] [] (n, sh, I1, L1, R1)) :
    ∀ d : Nat, d ≤ nd.toNat → ∀ I1 L1 R1 c, PB E.2.2 n sh x I1 L1 R1 c → (∀ q i, (q < x ∨ x + 170 ≤ q) → I1 q i = I q i) → DI I1 x c ng nd d → Wk l E (qmoS E 3 n 0 0 (qZ n sh (fun v I' L' R' => ∃ c ng nd, (2 ≤ ng ∧ ng ≤ 7) ∧ (2 ≤ nd ∧ nd ≤ 6) ∧ DI I' x c ng nd nd ∧ GI I' x c nd ng.toNat ∧ v = pos (kdf I' x) nd ng.toNat ∧ PB E.2.2 n sh x I' L' R' c ∧ ∀ q i, (q < x ∨ x + 170 ≤ q) → I' q i = I q i)) b N xs) mL_put 0 0 95 [(0, .ref x), (1, .ref b), (2, .int (zI 0)), (3, .int (zI 7)), (4, .ref (x + 167)), (5, .ref (x + 168)), (6, .ref (x + 169)), (7, .int (zI v7)), (8, .int (zI (2 + 2 * d))), (9, .int (zI d))] [] (n, sh, I1, L1, R1) := by
  refine up_ind nd.toNat ?_ ?_
  · intro I1 L1 R1 c PBh FR hD
    have e1 : ((nd.toNat : Nat) : Int) = nd := by omega
    rw [e1] at hD ⊢
    have q1 := hD.2.1
    have k0 := K I1 L1 R1 c PBh FR hD
    refine wk_iload (i := 9) (q := 97) dL_put_95 rfl rfl ?_
    refine wk_aload (i := 4) (q := 99) dL_put_97 rfl rfl ?_
    refine wk_iconst (q := 100) dL_put_99 rfl ?_
    refine wk_iald (q := 101) dL_put_100 rfl cT (by omega) ?_
    refine wk_icmp_ge (t := 225) (q := 104) dL_put_101 rfl rfl (by omega) (by omega) (fun hc101 => ?_) (fun hc101 => ?_)
    · exact k0
    · omega
  · intro d hd ih I1 L1 R1 c PBh FR hD
    have q1 := hD.2.1
    have j167 : ∀ (a e : Int) (I2 : qI), (1 ≤ a ∧ a ≤ 9) → (0 ≤ e ∧ e ≤ 9) → I2 = up (up I1 (x + 167) (4 + d) a) (x + 167) (10 + d) e → Wk l E (qmoS E 3 n 0 0 (qZ n sh (fun v I' L' R' => ∃ c ng nd, (2 ≤ ng ∧ ng ≤ 7) ∧ (2 ≤ nd ∧ nd ≤ 6) ∧ DI I' x c ng nd nd ∧ GI I' x c nd ng.toNat ∧ v = pos (kdf I' x) nd ng.toNat ∧ PB E.2.2 n sh x I' L' R' c ∧ ∀ q i, (q < x ∨ x + 170 ≤ q) → I' q i = I q i)) b N xs) mL_put 0 0 167 [(0, .ref x), (1, .ref b), (2, .int (zI 0)), (3, .int (zI 7)), (4, .ref (x + 167)), (5, .ref (x + 168)), (6, .ref (x + 169)), (7, .int (zI v7)), (8, .int (zI (2 + 2 * d))), (9, .int (zI d))] [] (n, sh, I2, L1, R1) := by
      intro a e I2 ha he hI2
      have fO : ∀ q i, q ≠ x + 167 → I2 q i = I1 q i := fun q i z => by rw [hI2, up_na _ _ _ _ z, up_na _ _ _ _ z]
      have fT : ∀ i, i ≠ 4 + (d : Int) → i ≠ 10 + (d : Int) → I2 (x + 167) i = I1 (x + 167) i := fun i z1 z2 => by rw [hI2, up_ni _ _ z2, up_ni _ _ z1]
      have a1 : I2 (x + 167) (4 + (d : Int)) = a := by rw [hI2, up_ni _ _ (by omega), up_eq]
      have a2 : I2 (x + 167) (10 + (d : Int)) = e := by rw [hI2, up_eq]
      have PB2 := PBh.frm (I' := I2) (fun c i q => fO c i (by omega))
      clear hI2
      refine wk_aload_n (i := 0) (q := 168) dL_put_167 rfl rfl rfl ?_
      refine wk_iconst (q := 169) dL_put_168 rfl ?_
      refine wk_iload (i := 8) (q := 171) dL_put_169 rfl rfl ?_
      refine wk_iinc (lo' := [(0, _), (1, _), (2, _), (3, _), (4, _), (5, _), (6, _), (7, _), (8, _), (9, _)]) (q := 174) dL_put_171 rfl rfl (by decide) rfl ?_
      refine wk_bipush (q := 176) dL_put_174 rfl (by decide +kernel) ?_
      refine wk_aload (i := 4) (q := 178) dL_put_176 rfl rfl ?_
      refine wk_iconst (q := 179) dL_put_178 rfl ?_
      refine wk_iload (i := 9) (q := 181) dL_put_179 rfl rfl ?_
      refine wk_iadd (q := 182) dL_put_181 rfl ?_
      refine wk_iald (q := 183) dL_put_182 rfl cT (by omega) ?_
      rw [a1]
      refine wk_iadd (q := 184) dL_put_183 rfl ?_
      refine wk_cZ3 (q := 187) dL_put_184 rfl vl_L_25 ⟨_, _, rfl⟩ hO.ob (oc_putB PB2 ⟨by omega, by omega⟩ ⟨by omega, by omega⟩) (qRo_mS ok_X6_put (by decide) (Nat.le_refl _) (Nat.le_refl _)) (Nat.le_of_ble_eq_true rfl) (fun v184 I184 L184 R184 hv184 => ?_)
      obtain ⟨rfl, hB3, f3⟩ := hv184
      refine wk_iconst (q := 188) dL_put_187 rfl ?_
      refine wk_icmp_ne (t := 216) (q := 191) dL_put_188 rfl rfl (by omega) (by omega) (fun hc188 => ?_) (fun hc188 => ?_)
      · omega
      · refine wk_aload_n (i := 0) (q := 192) dL_put_191 rfl rfl rfl ?_
        refine wk_iconst (q := 193) dL_put_192 rfl ?_
        refine wk_iload (i := 8) (q := 195) dL_put_193 rfl rfl ?_
        refine wk_iinc (lo' := [(0, _), (1, _), (2, _), (3, _), (4, _), (5, _), (6, _), (7, _), (8, _), (9, _)]) (q := 198) dL_put_195 rfl rfl (by decide) rfl ?_
        refine wk_bipush (q := 200) dL_put_198 rfl (by decide +kernel) ?_
        refine wk_aload (i := 4) (q := 202) dL_put_200 rfl rfl ?_
        refine wk_bipush (q := 204) dL_put_202 rfl (by decide +kernel) ?_
        refine wk_iload (i := 9) (q := 206) dL_put_204 rfl rfl ?_
        refine wk_iadd (q := 207) dL_put_206 rfl ?_
        refine wk_iald (q := 208) dL_put_207 rfl cT (by omega) ?_
        have e3 : I184 (x + 167) (10 + (d : Int)) = e := (f3 _ _ (by omega)).trans a2
        rw [e3]
        refine wk_iadd (q := 209) dL_put_208 rfl ?_
        refine wk_cZ3 (q := 212) dL_put_209 rfl vl_L_25 ⟨_, _, rfl⟩ hO.ob (oc_putB hB3 ⟨by omega, by omega⟩ ⟨by omega, by omega⟩) (qRo_mS ok_X6_put (by decide) (Nat.le_refl _) (Nat.le_refl _)) (Nat.le_of_ble_eq_true rfl) (fun v209 I209 L209 R209 hv209 => ?_)
        obtain ⟨rfl, hB4, f4⟩ := hv209
        refine wk_iconst (q := 213) dL_put_212 rfl ?_
        refine wk_icmp_eq (t := 219) (q := 216) dL_put_213 rfl rfl (by omega) (by omega) (fun hc213 => ?_) (fun hc213 => ?_)
        · refine wk_iinc (lo' := [(0, _), (1, _), (2, _), (3, _), (4, _), (5, _), (6, _), (7, _), (8, _), (9, _)]) (q := 222) dL_put_219 rfl rfl (by decide) rfl ?_
          refine wk_goto (t := 95) dL_put_222 rfl ?_
          have e4 : ∀ q i, x + 167 ≤ q → I209 q i = I2 q i := fun q i z => (f4 q i (by omega)).trans (f3 q i (by omega))
          have w := ih I209 L209 R209 _ hB4 (fun q i z => (f4 q i (by omega)).trans ((f3 q i (by omega)).trans ((fO q i (by omega)).trans (FR q i z)))) (by
            obtain ⟨w1, w2, w3, w4, w5, w6, w7⟩ := hD
            unfold DI
            rw [e4 _ _ (by omega), e4 _ _ (by omega), e4 _ _ (by omega), e4 _ _ (by omega), fT _ (by omega) (by omega), fT _ (by omega) (by omega), fT _ (by omega) (by omega), fT _ (by omega) (by omega), u1_ne (by omega), u1_ne (by omega), u1_ne (by omega), u1_ne (by omega)]
            refine ⟨w1, w2, w3, w4, w5, w6, fun i i0 i1 => ?_⟩
            rw [e4 _ _ (by omega), e4 _ _ (by omega)]
            by_cases z : i = d
            · rw [z, a1, a2, u1_ne (by omega), u1_eq, show (3 : Int) + 2 * (d : Int) = 2 + 2 * (d : Int) + 1 by omega, u1_eq]
              omega
            · rw [fT _ (by omega) (by omega), fT _ (by omega) (by omega), u1_ne (by omega), u1_ne (by omega), u1_ne (by omega), u1_ne (by omega)]
              exact w7 i i0 (by omega))
          rw [show (2 : Int) + 2 * (d : Int) + 1 + 1 = 2 + 2 * ((d + 1 : Nat) : Int) by omega]
          exact w
        · omega
    have j137 : ∀ m a : Int, (m = 9 ∨ m = 3) → Wk l E (qmoS E 3 n 0 0 (qZ n sh (fun v I' L' R' => ∃ c ng nd, (2 ≤ ng ∧ ng ≤ 7) ∧ (2 ≤ nd ∧ nd ≤ 6) ∧ DI I' x c ng nd nd ∧ GI I' x c nd ng.toNat ∧ v = pos (kdf I' x) nd ng.toNat ∧ PB E.2.2 n sh x I' L' R' c ∧ ∀ q i, (q < x ∨ x + 170 ≤ q) → I' q i = I q i)) b N xs) mL_put 0 0 137 [(0, .ref x), (1, .ref b), (2, .int (zI 0)), (3, .int (zI 7)), (4, .ref (x + 167)), (5, .ref (x + 168)), (6, .ref (x + 169)), (7, .int (zI v7)), (8, .int (zI (2 + 2 * d))), (9, .int (zI d))] [.int (zI m), .int (zI a), .int (zI 1), .int (zI (4 + d)), .ref (x + 167)] (n, sh, I1, L1, R1) := by
      intro m a hm
      refine wk_sP2 (q := 140) dL_put_137 rfl sl_L_15 (ct_some (by omega)) (qRo_mS ok_L_some (by decide) (Nat.le_refl _) (Nat.le_refl _)) (Nat.le_of_ble_eq_true rfl) (fun v137 hv137 => ?_)
      refine wk_iadd (q := 141) dL_put_140 rfl ?_
      refine wk_iast (q := 142) dL_put_141 rfl cT (by omega) ?_
      refine wk_aload (i := 4) (q := 144) dL_put_142 rfl rfl ?_
      refine wk_bipush (q := 146) dL_put_144 rfl (by decide +kernel) ?_
      refine wk_iload (i := 9) (q := 148) dL_put_146 rfl rfl ?_
      refine wk_iadd (q := 149) dL_put_148 rfl ?_
      refine wk_aload_n (i := 1) (q := 150) dL_put_149 rfl rfl rfl ?_
      refine wk_iload_n (i := 2) (q := 151) dL_put_150 rfl rfl rfl ?_
      refine wk_iconst (q := 152) dL_put_151 rfl ?_
      refine wk_iadd (q := 153) dL_put_152 rfl ?_
      refine wk_sQ2 (q := 156) dL_put_153 rfl sl_L_9 (fun _ h => h) (ct_cell hL ⟨by omega, by omega⟩) (qRo_mS ok_L_cell (by decide) (Nat.le_refl _) (Nat.le_refl _)) (Nat.le_of_ble_eq_true rfl) (fun v153 hv153 => ?_)
      refine wk_iconst (q := 157) dL_put_156 rfl ?_
      refine wk_iload (i := 9) (q := 159) dL_put_157 rfl rfl ?_
      refine wk_imul (q := 160) dL_put_159 rfl ?_
      refine wk_ishr (q := 161) dL_put_160 rfl ?_
      refine wk_bipush (q := 163) dL_put_161 rfl (by decide +kernel) ?_
      refine wk_sP2 (q := 166) dL_put_163 rfl sl_L_15 (ct_some (by omega)) (qRo_mS ok_L_some (by decide) (Nat.le_refl _) (Nat.le_refl _)) (Nat.le_of_ble_eq_true rfl) (fun v163 hv163 => ?_)
      refine wk_iast (q := 167) dL_put_166 rfl cT (by omega) ?_
      exact j167 (1 + v137) v163 _ ⟨by omega, by omega⟩ ⟨by omega, by omega⟩ rfl
    refine wk_iload (i := 9) (q := 97) dL_put_95 rfl rfl ?_
    refine wk_aload (i := 4) (q := 99) dL_put_97 rfl rfl ?_
    refine wk_iconst (q := 100) dL_put_99 rfl ?_
    refine wk_iald (q := 101) dL_put_100 rfl cT (by omega) ?_
    refine wk_icmp_ge (t := 225) (q := 104) dL_put_101 rfl rfl (by omega) (by omega) (fun hc101 => ?_) (fun hc101 => ?_)
    · omega
    · refine wk_aload (i := 4) (q := 106) dL_put_104 rfl rfl ?_
      refine wk_iconst (q := 107) dL_put_106 rfl ?_
      refine wk_iload (i := 9) (q := 109) dL_put_107 rfl rfl ?_
      refine wk_iadd (q := 110) dL_put_109 rfl ?_
      refine wk_iconst (q := 111) dL_put_110 rfl ?_
      refine wk_iload (i := 7) (q := 113) dL_put_111 rfl rfl ?_
      refine wk_bipush (q := 115) dL_put_113 rfl (by decide +kernel) ?_
      refine wk_iload (i := 9) (q := 117) dL_put_115 rfl rfl ?_
      refine wk_iadd (q := 118) dL_put_117 rfl ?_
      refine wk_ishr (q := 119) dL_put_118 rfl ?_
      refine wk_iload (i := 7) (q := 121) dL_put_119 rfl rfl ?_
      refine wk_bipush (q := 123) dL_put_121 rfl (by decide +kernel) ?_
      refine wk_ishr (q := 124) dL_put_123 rfl ?_
      refine wk_iconst (q := 125) dL_put_124 rfl ?_
      refine wk_sP2 (q := 128) dL_put_125 rfl sl_L_15 (ct_some (by omega)) (qRo_mS ok_L_some (by decide) (Nat.le_refl _) (Nat.le_refl _)) (Nat.le_of_ble_eq_true rfl) (fun v125 hv125 => ?_)
      refine wk_if_ne (t := 136) (q := 131) dL_put_128 rfl rfl (by omega) (fun hc128 => ?_) (fun hc128 => ?_)
      · refine wk_iconst (q := 137) dL_put_136 rfl ?_
        first
        | exact j137 9 _ (Or.inl rfl)
        | exact j137 3 _ (Or.inr rfl)
      · refine wk_bipush (q := 133) dL_put_131 rfl (by decide +kernel) ?_
        refine wk_goto (t := 137) dL_put_133 rfl ?_
        first
        | exact j137 9 _ (Or.inl rfl)
        | exact j137 3 _ (Or.inr rfl)
theorem pt_guests {b N : Nat} {xs : Nat → Int32} {x : Nat} {ng nd v7 : Int} (hL : N ≤ 260) (hO : isX E.2.2 n sh x) (cT : isC E.2.2 n sh (x + 167) 0 51) (cW : isC E.2.2 n sh (x + 168) 0 42) (cU : isC E.2.2 n sh (x + 169) 0 42) (hng : 2 ≤ ng ∧ ng ≤ 7) (hnd : 2 ≤ nd ∧ nd ≤ 6) : ∀ g : Nat, g ≤ ng.toNat → ∀ I1 L1 R1 c, PB E.2.2 n sh x I1 L1 R1 c → (∀ q i, (q < x ∨ x + 170 ≤ q) → I1 q i = I q i) → DI I1 x c ng nd nd → GI I1 x c nd g → Wk l E (qmoS E 3 n 0 0 (qZ n sh (fun v I' L' R' => ∃ c ng nd, (2 ≤ ng ∧ ng ≤ 7) ∧ (2 ≤ nd ∧ nd ≤ 6) ∧ DI I' x c ng nd nd ∧ GI I' x c nd ng.toNat ∧ v = pos (kdf I' x) nd ng.toNat ∧ PB E.2.2 n sh x I' L' R' c ∧ ∀ q i, (q < x ∨ x + 170 ≤ q) → I' q i = I q i)) b N xs) mL_put 0 0 228 [(0, .ref x), (1, .ref b), (2, .int (zI 0)), (3, .int (zI 7)), (4, .ref (x + 167)), (5, .ref (x + 168)), (6, .ref (x + 169)), (7, .int (zI v7)), (8, .int (zI (pos (kdf I1 x) nd g))), (9, .int (zI g))] [] (n, sh, I1, L1, R1) := by
  refine up_ind ng.toNat ?_ ?_
  · intro I1 L1 R1 c PBh FR hD hG
    have q0 := hD.1
    refine wk_iload (i := 9) (q := 230) dL_put_228 rfl rfl ?_
    refine wk_aload (i := 4) (q := 232) dL_put_230 rfl rfl ?_
    refine wk_iconst (q := 233) dL_put_232 rfl ?_
    refine wk_iald (q := 234) dL_put_233 rfl cT (by omega) ?_
    refine wk_icmp_ge (t := 620) (q := 237) dL_put_234 rfl rfl (by omega) (by omega) (fun hc234 => ?_) (fun hc234 => ?_)
    · refine wk_iload (i := 8) (q := 622) dL_put_620 rfl rfl ?_
      refine wk_iretS dL_put_622 rfl ⟨Nat.le_refl _, Nat.le_refl _⟩ rfl ?_
      exact ⟨_, _, _, _, rfl, rfl, c, ng, nd, hng, hnd, hD, hG, rfl, PBh, FR⟩
    · omega
  · intro g hg ih I1 L1 R1 c PBh FR hD hG
    exact pt_guest hL hO cT cW cU hng hnd (by omega) (fun I3 L3 R3 c3 b1 b2 b3 b4 => ih I3 L3 R3 c3 b1 b2 b3 b4) PBh FR hD hG
end PUT4
section PUT5
variable {l : Launch} {E : qEv} {n : Nat} {sh : qSh} {I L : qI} {R : qR}
theorem ct_put {b N : Nat} {xs : Nat → Int32} {x : Nat} {V : VV} (hL : N ≤ 260) (hC : CI E.2.2 n sh x I L R V) (cT : isC E.2.2 n sh (x + 167) 0 51) (cW : isC E.2.2 n sh (x + 168) 0 42) (cU : isC E.2.2 n sh (x + 169) 0 42) :
    CtS l E 3 mL_put [.ref x, .ref b, .int (zI 0), .int (zI 7), .ref (x + 167), .ref (x + 168), .ref (x + 169)] (n, sh, I, L, R) 0 0 (qZ n sh (fun v I' L' R' => ∃ c ng nd, (2 ≤ ng ∧ ng ≤ 7) ∧ (2 ≤ nd ∧ nd ≤ 6) ∧ DI I' x c ng nd nd ∧ GI I' x c nd ng.toNat ∧ v = pos (kdf I' x) nd ng.toNat ∧ PB E.2.2 n sh x I' L' R' c ∧ ∀ q i, (q < x ∨ x + 170 ≤ q) → I' q i = I q i)) b N xs := by
  have hO := hC.isX
  refine CtS.of (lo := [(0, _), (1, _), (2, _), (3, _), (4, _), (5, _), (6, _)]) ok_L_put (Nat.le_of_ble_eq_true rfl) rfl ?_
  refine wk_aload_n (i := 1) (q := 1) dL_put_0 rfl rfl rfl ?_
  refine wk_iload_n (i := 2) (q := 2) dL_put_1 rfl rfl rfl ?_
  refine wk_sQ2 (q := 5) dL_put_2 rfl sl_L_9 (fun _ h => h) (ct_cell hL ⟨by omega, by omega⟩) (qRo_mS ok_L_cell (by decide) (Nat.le_refl _) (Nat.le_refl _)) (Nat.le_of_ble_eq_true rfl) (fun v2 hv2 => ?_)
  refine wk_istore (i := 7) (lo' := [(0, _), (1, _), (2, _), (3, _), (4, _), (5, _), (6, _), (7, _)]) (q := 7) dL_put_5 rfl (by decide) rfl ?_
  refine wk_aload (i := 4) (q := 9) dL_put_7 rfl rfl ?_
  refine wk_iconst (q := 10) dL_put_9 rfl ?_
  refine wk_iconst (q := 11) dL_put_10 rfl ?_
  refine wk_iload (i := 7) (q := 13) dL_put_11 rfl rfl ?_
  refine wk_iload_n (i := 3) (q := 14) dL_put_13 rfl rfl rfl ?_
  refine wk_iconst (q := 15) dL_put_14 rfl ?_
  refine wk_isub (q := 16) dL_put_15 rfl ?_
  refine wk_sP2 (q := 19) dL_put_16 rfl sl_L_15 (ct_some (by omega)) (qRo_mS ok_L_some (by decide) (Nat.le_refl _) (Nat.le_refl _)) (Nat.le_of_ble_eq_true rfl) (fun v16 hv16 => ?_)
  refine wk_iadd (q := 20) dL_put_19 rfl ?_
  refine wk_iast (q := 21) dL_put_20 rfl cT (by omega) ?_
  refine wk_aload (i := 4) (q := 23) dL_put_21 rfl rfl ?_
  refine wk_iconst (q := 24) dL_put_23 rfl ?_
  refine wk_iconst (q := 25) dL_put_24 rfl ?_
  refine wk_iload (i := 7) (q := 27) dL_put_25 rfl rfl ?_
  refine wk_iconst (q := 28) dL_put_27 rfl ?_
  refine wk_ishr (q := 29) dL_put_28 rfl ?_
  refine wk_iconst (q := 30) dL_put_29 rfl ?_
  refine wk_sP2 (q := 33) dL_put_30 rfl sl_L_15 (ct_some (by omega)) (qRo_mS ok_L_some (by decide) (Nat.le_refl _) (Nat.le_refl _)) (Nat.le_of_ble_eq_true rfl) (fun v30 hv30 => ?_)
  refine wk_iadd (q := 34) dL_put_33 rfl ?_
  refine wk_iast (q := 35) dL_put_34 rfl cT (by omega) ?_
  refine wk_aload (i := 4) (q := 37) dL_put_35 rfl rfl ?_
  refine wk_iconst (q := 38) dL_put_37 rfl ?_
  refine wk_iconst (q := 39) dL_put_38 rfl ?_
  refine wk_iast (q := 40) dL_put_39 rfl cT (by omega) ?_
  refine wk_aload (i := 4) (q := 42) dL_put_40 rfl rfl ?_
  refine wk_iconst (q := 43) dL_put_42 rfl ?_
  refine wk_iconst (q := 44) dL_put_43 rfl ?_
  refine wk_iast (q := 45) dL_put_44 rfl cT (by omega) ?_
  refine wk_aload_n (i := 0) (q := 46) dL_put_45 rfl rfl rfl ?_
  refine wk_iconst (q := 47) dL_put_46 rfl ?_
  refine wk_iconst (q := 48) dL_put_47 rfl ?_
  refine wk_bipush (q := 50) dL_put_48 rfl (by decide +kernel) ?_
  refine wk_cZ3 (q := 53) dL_put_50 rfl vl_L_19 ⟨_, _, rfl⟩ hO.ob (oc_sheetB (hC.frm (fun c i h1 h2 => by rw [up_na _ _ _ _ (by omega), up_na _ _ _ _ (by omega), up_na _ _ _ _ (by omega), up_na _ _ _ _ (by omega)]))) (qRo_mS ok_X6_sheet (by decide) (Nat.le_refl _) (Nat.le_refl _)) (Nat.le_of_ble_eq_true rfl) (fun v50 I50 L50 R50 hv50 => ?_)
  obtain ⟨rfl, hB1, f1⟩ := hv50
  refine wk_iconst (q := 54) dL_put_53 rfl ?_
  refine wk_icmp_ne (t := 86) (q := 57) dL_put_54 rfl rfl (by omega) (by omega) (fun hc54 => ?_) (fun hc54 => ?_)
  · omega
  · refine wk_aload_n (i := 0) (q := 58) dL_put_57 rfl rfl rfl ?_
    refine wk_iconst (q := 59) dL_put_58 rfl ?_
    refine wk_iconst (q := 60) dL_put_59 rfl ?_
    refine wk_bipush (q := 62) dL_put_60 rfl (by decide +kernel) ?_
    refine wk_cZ3 (q := 65) dL_put_62 rfl vl_L_25 ⟨_, _, rfl⟩ hO.ob (oc_putB hB1 ⟨by omega, by omega⟩ ⟨by omega, by omega⟩) (qRo_mS ok_X6_put (by decide) (Nat.le_refl _) (Nat.le_refl _)) (Nat.le_of_ble_eq_true rfl) (fun v62 I62 L62 R62 hv62 => ?_)
    obtain ⟨rfl, hB2, f2⟩ := hv62
    have e2 : ∀ i, I62 (x + 167) i = _ := fun i => (f2 _ i (by omega)).trans (f1 _ i (by omega))
    have a0 : I62 (x + 167) 0 = 2 + v16 := by rw [e2, up_ni _ _ (by omega), up_ni _ _ (by omega), up_ni _ _ (by omega), up_eq]
    have a1 : I62 (x + 167) 1 = 2 + v30 := by rw [e2, up_ni _ _ (by omega), up_ni _ _ (by omega), up_eq]
    have a2 : I62 (x + 167) 2 = 1 := by rw [e2, up_ni _ _ (by omega), up_eq]
    have a3 : I62 (x + 167) 3 = 1 := by rw [e2, up_eq]
    have o2 : ∀ q i, (q < x ∨ x + 170 ≤ q) → I62 q i = I q i := fun q i z => (f2 q i (by omega)).trans ((f1 q i (by omega)).trans (by rw [up_na _ _ _ _ (by omega), up_na _ _ _ _ (by omega), up_na _ _ _ _ (by omega), up_na _ _ _ _ (by omega)]))
    refine wk_iconst (q := 66) dL_put_65 rfl ?_
    refine wk_icmp_ne (t := 86) (q := 69) dL_put_66 rfl rfl (by omega) (by omega) (fun hc66 => ?_) (fun hc66 => ?_)
    · omega
    · refine wk_aload_n (i := 0) (q := 70) dL_put_69 rfl rfl rfl ?_
      refine wk_iconst (q := 71) dL_put_70 rfl ?_
      refine wk_iconst (q := 72) dL_put_71 rfl ?_
      refine wk_bipush (q := 74) dL_put_72 rfl (by decide +kernel) ?_
      refine wk_aload (i := 4) (q := 76) dL_put_74 rfl rfl ?_
      refine wk_iconst (q := 77) dL_put_76 rfl ?_
      refine wk_iald (q := 78) dL_put_77 rfl cT (by omega) ?_
      rw [a1]
      refine wk_iadd (q := 79) dL_put_78 rfl ?_
      refine wk_cZ3 (q := 82) dL_put_79 rfl vl_L_25 ⟨_, _, rfl⟩ hO.ob (oc_putB hB2 ⟨by omega, by omega⟩ ⟨by omega, by omega⟩) (qRo_mS ok_X6_put (by decide) (Nat.le_refl _) (Nat.le_refl _)) (Nat.le_of_ble_eq_true rfl) (fun v79 I79 L79 R79 hv79 => ?_)
      obtain ⟨rfl, hB3, f3⟩ := hv79
      have e3 : ∀ i, I79 (x + 167) i = I62 (x + 167) i := fun i => f3 _ i (by omega)
      refine wk_iconst (q := 83) dL_put_82 rfl ?_
      refine wk_icmp_eq (t := 89) (q := 86) dL_put_83 rfl rfl (by omega) (by omega) (fun hc83 => ?_) (fun hc83 => ?_)
      · refine wk_iconst (q := 90) dL_put_89 rfl ?_
        refine wk_istore (i := 8) (lo' := [(0, _), (1, _), (2, _), (3, _), (4, _), (5, _), (6, _), (7, _), (8, _)]) (q := 92) dL_put_90 rfl (by decide) rfl ?_
        refine wk_iconst (q := 93) dL_put_92 rfl ?_
        refine wk_istore (i := 9) (lo' := [(0, _), (1, _), (2, _), (3, _), (4, _), (5, _), (6, _), (7, _), (8, _), (9, _)]) (q := 95) dL_put_93 rfl (by decide) rfl ?_
        refine pt_dishes (ng := 2 + v16) (nd := 2 + v30) hL hO cT cW cU ⟨by omega, by omega⟩ ⟨by omega, by omega⟩ (fun I1 L1 R1 c PBh FR hD => ?_) 0 (Nat.zero_le _) I79 L79 R79 _ hB3 (fun q i z => (f3 q i (by omega)).trans (o2 q i z)) ⟨(e3 _).trans a0, (e3 _).trans a1, (e3 _).trans a2, (e3 _).trans a3, by rw [u1_ne (by omega), u1_eq], by rw [u1_eq], fun i i0 i1 => absurd i1 (by omega)⟩
        have w := pt_guests (l := l) (E := E) (b := b) (n := n) (sh := sh) (I := I) (xs := xs) (v7 := v2) hL hO cT cW cU (by omega : 2 ≤ 2 + v16 ∧ 2 + v16 ≤ 7) (by omega : 2 ≤ 2 + v30 ∧ 2 + v30 ≤ 6) 0 (Nat.zero_le _) I1 L1 R1 c PBh FR hD (fun i hi => absurd hi (by omega))
        refine wk_iconst (q := 226) dL_put_225 rfl ?_
        refine wk_istore (i := 9) (lo' := [(0, _), (1, _), (2, _), (3, _), (4, _), (5, _), (6, _), (7, _), (8, _), (9, _)]) (q := 228) dL_put_226 rfl (by decide) rfl ?_
        exact w
      · omega
end PUT5
