/-! THE LAW: the object is made, its table told -/
def T0 : TT := (0, 0, fun _ => 0, fun _ => 0, fun _ => 0, fun _ => 0, fun _ => 0, fun _ _ => 0)
def C0 : CC := (fun _ _ => 0, fun _ => 0, fun _ => 0, 0, 0, 0, 0)
def Vz : VV := (T0, C0, fun _ => 0, 0, 0, 0, fun _ => 0, fun _ => 0, fun _ => 0, fun _ _ => 0)
theorem Vz_in : in32 0 := ⟨by decide, by decide⟩
theorem Vz_ok : Vz.ok := ⟨fun k _ _ => ⟨Or.inl rfl, Vz_in, Int.le_refl _, by show (0 : Int) ≤ 100; decide, fun _ _ _ => Vz_in⟩, Or.inl ⟨rfl, rfl⟩⟩
theorem Vz_no {d : Int} (h0 : 0 ≤ d) (h1 : d < 0) {P : Prop} : P := absurd h1 (by omega)
theorem CI_Vz {b n : Nat} {sh : qSh} {x : Nat} {I L : qI} {R : qR} (hR : qRA b n sh R x (x + 2) (x + 16) (x + 30 + 1) (x + 68 + 1) (x + 106 + 1)) (hI : ∀ c i, x ≤ c → c < x + 167 → (i = 8 → x + 150 ≤ c) → c ≠ x + 144 → c ≠ x + 147 → I c i = 0) : CI b n sh x I L R Vz := by
  have h : ∀ c i, x ≤ c ∧ c < x + 167 ∧ (i ≠ 8 ∨ x + 150 ≤ c) ∧ c ≠ x + 144 ∧ c ≠ x + 147 → I c i = 0 := fun c i q => hI c i q.1 q.2.1 (by omega) q.2.2.2.1 q.2.2.2.2
  refine ⟨_, _, _, _, _, hR, Or.inl ⟨rfl, rfl⟩, Vz_ok, h _ _ (by omega), h _ _ (by omega), h _ _ (by omega), fun k k0 k1 => ⟨h _ _ (by omega), h _ _ (by omega), h _ _ (by omega), fun i i0 i1 => h _ _ (by omega)⟩, ⟨⟨h _ _ (by omega), h _ _ (by omega), fun d d0 d1 => Vz_no d0 d1, fun g g0 g1 => Vz_no g0 g1⟩, Or.inl ⟨rfl, h _ _ (by omega), h _ _ (by omega)⟩⟩, Or.inl (h _ _ (by omega)), Or.inl (h _ _ (by omega))⟩
section LAW8
variable {l : Launch} {E : qEv} {Q : List Frame → Array Value → State → State → Prop} {b N : Nat} {xs : Nat → Int32} 
def Sz : qS := (0, fun _ => (0, 0), fun _ _ => 0, fun _ _ => 0, fun _ _ => 0)
theorem lw_open2 {sh : qSh} {I L : qI} {R : qR} {V0 : VV} {cd : Int} (hN : N ≤ 260) (cT : isC E.2.2 170 sh (E.2.2 + 167) 0 51) (cW : isC E.2.2 170 sh (E.2.2 + 168) 0 42) (cU : isC E.2.2 170 sh (E.2.2 + 169) 0 42) (hC : CI E.2.2 170 sh E.2.2 I L R V0) (hp : 0 < V0.T.ng) (hA : tyA I (E.2.2 + 167) (E.2.2 + 168) (E.2.2 + 169) V0.T V0.C V0.la) (hz : ∀ q i, E.2.2 + 170 ≤ q → I q i = 0)
    (Ke : ∀ (k j : Nat) (lo : List (Nat × Value)) (S' : qS), k ≤ 600000 → j ≤ 7302250 → Wk l E (lwY E Q b N xs) mL k j 1156 lo [.int (zI 1)] S') : Wk l E (lwY E Q b N xs) mL 170 2126 66 [(0, .ref b), (1, .ref E.2.2), (2, .ref (E.2.2 + 167)), (3, .ref (E.2.2 + 168)), (4, .ref (E.2.2 + 169)), (5, .int (zI cd)), (6, .int (zI V0.T.ng))] [] (170, sh, I, L, R) := by
  have hL : LC E.2.2 173 (shu (shu (shu sh (E.2.2 + 170) (0, 51)) (E.2.2 + (170 + 1)) (0, 14)) (E.2.2 + (170 + 1 + 1)) (0, 56)) E.2.2 := ⟨cT.sh1.sh1.sh1, cW.sh1.sh1.sh1, cU.sh1.sh1.sh1, (isC.nw (by decide)).sh1.sh1, (isC.nw (by decide)).sh1, isC.nw (by decide)⟩
  have w := lw_turns (l := l) (E := E) (Q := Q) (b := b) (N := N) (xs := xs) (x := E.2.2) (cd := cd) (V0 := V0) hN Ke 0 (Nat.zero_le _) 173 173 2247 _ I L R V0 (Nat.le_of_ble_eq_true rfl) (Nat.le_of_ble_eq_true rfl) hL ⟨hC.sh1.sh1.sh1, hp, hA, fun q i z => hz q i (by omega)⟩ rfl (Or.inl rfl)
  refine wk_bipush (q := 68) dL_law_66 rfl (by decide +kernel) ?_
  refine wk_newA (z := 51) (q := 70) dL_law_68 rfl w_ai rfl (by decide) (fun i => hz _ i (by omega)) (Nat.le_of_ble_eq_true rfl) (Nat.le_of_ble_eq_true rfl) ?_
  refine wk_astore (i := 7) (lo' := [(0, _), (1, _), (2, _), (3, _), (4, _), (5, _), (6, _), (7, _)]) (q := 72) dL_law_70 rfl (by decide) rfl ?_
  refine wk_bipush (q := 74) dL_law_72 rfl (by decide +kernel) ?_
  refine wk_newA (z := 14) (q := 76) dL_law_74 rfl w_ai rfl (by decide) (fun i => hz _ i (by omega)) (Nat.le_of_ble_eq_true rfl) (Nat.le_of_ble_eq_true rfl) ?_
  refine wk_astore (i := 8) (lo' := [(0, _), (1, _), (2, _), (3, _), (4, _), (5, _), (6, _), (7, _), (8, _)]) (q := 78) dL_law_76 rfl (by decide) rfl ?_
  refine wk_bipush (q := 80) dL_law_78 rfl (by decide +kernel) ?_
  refine wk_newA (z := 56) (q := 82) dL_law_80 rfl w_ai rfl (by decide) (fun i => hz _ i (by omega)) (Nat.le_of_ble_eq_true rfl) (Nat.le_of_ble_eq_true rfl) ?_
  refine wk_astore (i := 9) (lo' := [(0, _), (1, _), (2, _), (3, _), (4, _), (5, _), (6, _), (7, _), (8, _), (9, _)]) (q := 84) dL_law_82 rfl (by decide) rfl ?_
  refine wk_iconst (q := 85) dL_law_84 rfl ?_
  refine wk_istore (i := 10) (lo' := [(0, _), (1, _), (2, _), (3, _), (4, _), (5, _), (6, _), (7, _), (8, _), (9, _), (10, _)]) (q := 87) dL_law_85 rfl (by decide) rfl ?_
  exact w
theorem lw_open1 {sh : qSh} {I L : qI} {R : qR} {V1 : VV} {cd ng : Int} {c : Int → Int} (hN : N ≤ 260) (cT : isC E.2.2 170 sh (E.2.2 + 167) 0 51) (cW : isC E.2.2 170 sh (E.2.2 + 168) 0 42) (cU : isC E.2.2 170 sh (E.2.2 + 169) 0 42) (hC1 : CI E.2.2 170 sh E.2.2 I L R V1) (th0 : V1.th 0 = 1) (so0 : V1.so 0 = 0) (sl0 : V1.sl 0 = 100) (ce0 : V1.ce 0 = c) (hng : 2 ≤ ng ∧ ng ≤ 7) (hcd : 12 ≤ cd ∧ cd ≤ 84) (t1 : (rdR c 0 (0 + cd)).1 = 1) (t2 : (((rdR c 0 (0 + cd)).2.2 : Nat) : Int) = ng)
    (hA : tyA I (E.2.2 + 167) (E.2.2 + 168) (E.2.2 + 169) (rdT c 0 (0 + cd)) (rdC (rdT c 0 (0 + cd))) (fun _ => -8)) (a0 : I (E.2.2 + 167) 0 = ng) (hz : ∀ q i, E.2.2 + 170 ≤ q → I q i = 0)
    (Ke : ∀ (k j : Nat) (lo : List (Nat × Value)) (S' : qS), k ≤ 600000 → j ≤ 7302250 → Wk l E (lwY E Q b N xs) mL k j 1156 lo [.int (zI 1)] S') : Wk l E (lwY E Q b N xs) mL 170 2126 36 [(0, .ref b), (1, .ref E.2.2), (2, .ref (E.2.2 + 167)), (3, .ref (E.2.2 + 168)), (4, .ref (E.2.2 + 169))] [.int (zI cd)] (170, sh, I, L, R) := by
  have hO := hC1.isX
  have hk : 170 ≤ 600000 := Nat.le_of_ble_eq_true rfl
  have hj : 2126 ≤ 7302250 := Nat.le_of_ble_eq_true rfl
  have rf : refR V1 0 0 0 cd = 0 := refR_z (by omega) (by omega) th0 so0 (by omega) (by omega)
  have er : r_table V1 0 0 0 cd = ng := by
    unfold r_table
    rw [if_neg (fun z => z rf), ce0, if_pos t1]
    exact t2
  have es : s_table V1 0 0 0 cd = takT (V1.setFa 0) (rdT c 0 (0 + cd)) := by
    unfold s_table
    rw [if_neg (fun z => z rf), ce0, if_pos t1]
  have tng : (takT (V1.setFa 0) (rdT c 0 (0 + cd))).T.ng = ng := t2
  refine wk_istore (i := 5) (lo' := [(0, _), (1, _), (2, _), (3, _), (4, _), (5, _)]) (q := 38) dL_law_36 rfl (by decide) rfl ?_
  refine wk_aload_n (i := 2) (q := 39) dL_law_38 rfl rfl rfl ?_
  refine wk_iconst (q := 40) dL_law_39 rfl ?_
  refine wk_iald (q := 41) dL_law_40 rfl cT (by omega) ?_
  rw [a0]
  refine wk_istore (i := 6) (lo' := [(0, _), (1, _), (2, _), (3, _), (4, _), (5, _), (6, _)]) (q := 43) dL_law_41 rfl (by decide) rfl ?_
  refine wk_iload (i := 5) (q := 45) dL_law_43 rfl rfl ?_
  refine wk_bipush (q := 47) dL_law_45 rfl (by decide +kernel) ?_
  refine wk_icmp_lt (t := 64) (q := 50) dL_law_47 rfl rfl (by omega) (by omega) (fun hc47 => ?_) (fun hc47 => ?_)
  · omega
  · refine wk_aload_n (i := 1) (q := 51) dL_law_50 rfl rfl rfl ?_
    refine wk_iconst (q := 52) dL_law_51 rfl ?_
    refine wk_iconst (q := 53) dL_law_52 rfl ?_
    refine wk_iconst (q := 54) dL_law_53 rfl ?_
    refine wk_iload (i := 5) (q := 56) dL_law_54 rfl rfl ?_
    refine wk_cZ4 (q := 59) dL_law_56 rfl vl_L_49 ⟨_, _, rfl⟩ hO.ob (oc_table hC1 (by decide) (by decide) (by decide) (by omega)) ⟨Nat.le_of_ble_eq_true rfl, Nat.le_of_ble_eq_true rfl, hk, hj⟩ (Nat.le_of_ble_eq_true rfl) (fun v56 I56 L56 R56 hv56 => ?_)
    obtain ⟨ea, hC2, fI, fR⟩ := hv56
    rw [es] at hC2
    rw [er] at ea
    refine wk_iload (i := 6) (q := 61) dL_law_59 rfl rfl ?_
    refine wk_icmp_eq (t := 66) (q := 64) dL_law_61 rfl rfl (by omega) (by omega) (fun hc61 => ?_) (fun hc61 => ?_)
    · have w := lw_open2 (cd := cd) hN cT cW cU hC2 (by omega) (hA.st (fun i => fI _ i (by omega)) (fun i => fI _ i (by omega)) (fun i => fI _ i (by omega))) (fun q i z => (fI q i (by omega)).trans (hz q i z)) Ke
      rw [tng] at w
      exact w
    · omega
theorem lw_open (hb : 0 < E.2.2) (hN : N ≤ 260) (Ke : ∀ (k j : Nat) (lo : List (Nat × Value)) (S' : qS), k ≤ 600000 → j ≤ 7302250 → Wk l E (lwY E Q b N xs) mL k j 1156 lo [.int (zI 1)] S') : Wk l E (lwY E Q b N xs) mL 0 0 0 [(0, .ref b)] [] Sz := by
  unfold Sz
  have hz : qZr (E.2.2 + 0) (fun _ _ => 0) (fun _ _ => 0) (fun _ _ => 0) := fun _ _ _ => ⟨rfl, rfl, rfl⟩
  generalize hI0 : (fun (_ : Nat) (_ : Int) => (0 : Int)) = I0 at hz ⊢
  have zI0 : ∀ c i, I0 c i = 0 := fun c i => by rw [← hI0]
  generalize hR0 : (fun (_ : Nat) (_ : Int) => (0 : Nat)) = R0 at hz ⊢
  refine wk_mk (host := "") (ci := 6) (d := 3) (mc := 166) (ms := 1978) (o := E.2.2) (n' := 167) (k' := 167) (j' := 1991) (G := (fun sh' I' R' => I' = (up (up (up (up (up I0 (E.2.2 + 30) 8 (-1)) (E.2.2 + 68) 8 (-1)) (E.2.2 + 106) 8 (-1)) (E.2.2 + 144) 3 1) (E.2.2 + 147) 3 1) ∧ qRA E.2.2 167 sh' R' E.2.2 (E.2.2 + 2) (E.2.2 + 16) (E.2.2 + 30 + 1) (E.2.2 + 68 + 1) (E.2.2 + 106 + 1) ∧ ∀ b i, ¬ (E.2.2 ≤ b ∧ b < E.2.2 + 167) → R' b i = R0 b i)) dL_law_0 dL_law_3 dL_law_4 (q := 7) rfl ck_6 (qtb_in 29 (by decide +kernel) (by decide +kernel)) (qtb_in 30 (by decide +kernel) (by decide +kernel)) (qtb_in 20 (by decide +kernel) (by decide +kernel)) df_6 hz (Nat.le_of_ble_eq_true rfl) (Nat.le_of_ble_eq_true rfl) ok_X6_init (Or.inr (qtb_in 31 (by decide +kernel) (by decide +kernel))) (qtb_in 32 (by decide +kernel) (by decide +kernel)) rfl rfl rfl (by omega) (by omega) rfl rfl (fun sh1 g1 g2 => (ct_X6_init (x := E.2.2) hb g1 (by omega) hz.up1).mono (fun v S' q => by obtain ⟨e1, sh', R', e2, f1, f2, f3⟩ := q; exact ⟨e1, sh', _, R', e2, fun b hb => f2 b (by omega), rfl, f1, f3⟩)) ⟨Nat.le_of_ble_eq_true rfl, Nat.le_of_ble_eq_true rfl, Nat.le_of_ble_eq_true rfl, Nat.le_of_ble_eq_true rfl⟩ (Nat.le_of_ble_eq_true rfl) (fun s4 J4 R4 hs4 hg4 => ?_)
  obtain ⟨e4, g4, r4⟩ := hg4
  have hC : CI E.2.2 167 s4 E.2.2 J4 I0 R4 Vz := CI_Vz g4 (fun c i h1 h2 h3 h4 h5 => by
    subst e4
    repeat (first | rw [up_o2 (by omega)])
    exact zI0 _ _)
  have hJ : ∀ q i, E.2.2 + 167 ≤ q → J4 q i = 0 := fun q i z => by
    subst e4
    repeat (first | rw [up_na _ _ _ _ (by omega)])
    exact zI0 _ _
  clear e4
  refine wk_astore_n (i := 1) (lo' := [(0, _), (1, _)]) (q := 8) dL_law_7 rfl rfl (by decide) rfl ?_
  refine wk_bipush (q := 10) dL_law_8 rfl (by decide +kernel) ?_
  refine wk_newA (z := 51) (q := 12) dL_law_10 rfl w_ai rfl (by decide) (fun i => hJ _ i (by omega)) (Nat.le_of_ble_eq_true rfl) (Nat.le_of_ble_eq_true rfl) ?_
  refine wk_astore_n (i := 2) (lo' := [(0, _), (1, _), (2, _)]) (q := 13) dL_law_12 rfl rfl (by decide) rfl ?_
  refine wk_bipush (q := 15) dL_law_13 rfl (by decide +kernel) ?_
  refine wk_newA (z := 42) (q := 17) dL_law_15 rfl w_ai rfl (by decide) (fun i => hJ _ i (by omega)) (Nat.le_of_ble_eq_true rfl) (Nat.le_of_ble_eq_true rfl) ?_
  refine wk_astore_n (i := 3) (lo' := [(0, _), (1, _), (2, _), (3, _)]) (q := 18) dL_law_17 rfl rfl (by decide) rfl ?_
  refine wk_bipush (q := 20) dL_law_18 rfl (by decide +kernel) ?_
  refine wk_newA (z := 42) (q := 22) dL_law_20 rfl w_ai rfl (by decide) (fun i => hJ _ i (by omega)) (Nat.le_of_ble_eq_true rfl) (Nat.le_of_ble_eq_true rfl) ?_
  refine wk_astore (i := 4) (lo' := [(0, _), (1, _), (2, _), (3, _), (4, _)]) (q := 24) dL_law_22 rfl (by decide) rfl ?_
  obtain ⟨sh3, hsh3⟩ : ∃ sh3, sh3 = shu (shu (shu s4 (E.2.2 + 167) (0, 51)) (E.2.2 + (167 + 1)) (0, 42)) (E.2.2 + (167 + 1 + 1)) (0, 42) := ⟨_, rfl⟩
  have hC3 : CI E.2.2 170 sh3 E.2.2 J4 I0 R4 Vz := by
    rw [hsh3]
    exact hC.sh1.sh1.sh1
  have cT : isC E.2.2 170 sh3 (E.2.2 + 167) 0 51 := by
    rw [hsh3]
    exact (isC.nw (by decide)).sh1.sh1
  have cW : isC E.2.2 170 sh3 (E.2.2 + 168) 0 42 := by
    rw [hsh3]
    exact (isC.nw (by decide)).sh1
  have cU : isC E.2.2 170 sh3 (E.2.2 + 169) 0 42 := by
    rw [hsh3]
    exact isC.nw (by decide)
  have hO := hC3.isX
  rw [← hsh3]
  show Wk l E (lwY E Q b N xs) mL 170 2126 24 [(0, .ref b), (1, .ref E.2.2), (2, .ref (E.2.2 + 167)), (3, .ref (E.2.2 + 168)), (4, .ref (E.2.2 + 169))] [] (170, sh3, J4, I0, R4)
  have hk : 170 ≤ 600000 := Nat.le_of_ble_eq_true rfl
  have hj : 2126 ≤ 7302250 := Nat.le_of_ble_eq_true rfl
  refine wk_aload_n (i := 1) (q := 25) dL_law_24 rfl rfl rfl ?_
  refine wk_aload_n (i := 0) (q := 26) dL_law_25 rfl rfl rfl ?_
  refine wk_iconst (q := 27) dL_law_26 rfl ?_
  refine wk_bipush (q := 29) dL_law_27 rfl (by decide +kernel) ?_
  refine wk_aload_n (i := 2) (q := 30) dL_law_29 rfl rfl rfl ?_
  refine wk_aload_n (i := 3) (q := 31) dL_law_30 rfl rfl rfl ?_
  refine wk_aload (i := 4) (q := 33) dL_law_31 rfl rfl ?_
  refine wk_insS (st := []) (As := [.ref E.2.2, .ref b, .int (zI 0), .int (zI 7), .ref (E.2.2 + 167), .ref (E.2.2 + 168), .ref (E.2.2 + 169)]) (q := 36) (d := 3) (mc := 0) (ms := 0) dL_law_33 rfl sl_L_46 rfl (fun _ h => ⟨h.1, h.2.1⟩) (ct_put (xs := xs) hN hC3 cT cW cU) ⟨Nat.le_of_ble_eq_true rfl, Nat.le_of_ble_eq_true rfl, Nat.le_of_ble_eq_true rfl, Nat.le_of_ble_eq_true rfl⟩ (Nat.le_of_ble_eq_true rfl) (fun r S' hF _ => ?_)
  obtain ⟨cd, I2, L2, R2, rfl, rfl, c, ng, nd, hng, hnd, hD, hG, hcd, hPB, FR⟩ := hF
  have tt := tx_ty hng hnd hD hG
  rw [← hcd] at tt
  obtain ⟨t1, t2, hA⟩ := tt
  have pp := pos_in (kd := kdf I2 E.2.2) hnd ng.toNat
  rw [← hcd] at pp
  obtain ⟨V1, hC1, th0, so0, sl0, ce0⟩ := hPB
  have a0 := hD.1
  show Wk l E (lwY E Q b N xs) mL 170 2126 36 [(0, .ref b), (1, .ref E.2.2), (2, .ref (E.2.2 + 167)), (3, .ref (E.2.2 + 168)), (4, .ref (E.2.2 + 169))] [.int (zI cd)] (170, sh3, I2, L2, R2)
  exact lw_open1 hN cT cW cU hC1 th0 so0 sl0 ce0 hng ⟨by omega, by omega⟩ t1 t2 hA a0 (fun q i z => (FR q i (Or.inr z)).trans (hJ q i (by omega))) Ke
end LAW8
