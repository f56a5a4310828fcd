/-! THE LAW: its world; a turn's change and evening -/
abbrev mL : qMD := (yL_law, cL_law, 24, some .boolean)
def lwY (E : qEv) (Q : List Frame → Array Value → State → State → Prop) (b N : Nat) (xs : Nat → Int32) : qMo := (room_1, Q, fun s => va_X b N xs s s.heap ∧ b < E.2.2 ∧ E.2.2 = s.heap.size)
section SAME
variable {l : Launch} {E : qEv} {Y : qMo} {M : qMD} {k j : Nat} {pc q : Nat} {lo : List (Nat × Value)} {st : List Value} {S : qS}
theorem wk_icmp_eqS {a off : Int} {t : Nat} (hd : decode M.2.1 pc = .ok (.if_icmp .eq off, 3)) (ht : (pc : Int) + off = (t : Int)) (h : Wk l E Y M k j t lo st S) : Wk l E Y M k j pc lo (.int (zI a) :: .int (zI a) :: st) S := by
  intro p e s m args below meth c H locs ls hB hH hl
  exact lv_icmp_eq hB.1 hB.2.1 hd ht (fun _ => h p e s m args below meth c H locs ls hB hH hl) (fun z => absurd rfl z)
theorem wk_icmp_neS {a off : Int} {t : Nat} (hd : decode M.2.1 pc = .ok (.if_icmp .ne off, 3)) (ht : (pc : Int) + off = (t : Int)) (hq : pc + 3 = q) (h : Wk l E Y M k j q lo st S) : Wk l E Y M k j pc lo (.int (zI a) :: .int (zI a) :: st) S := by
  subst hq
  intro p e s m args below meth c H locs ls hB hH hl
  exact lv_icmp_ne hB.1 hB.2.1 hd ht (fun z => absurd rfl z) (fun _ => h p e s m args below meth c H locs ls hB hH hl)
end SAME
/-- the law's arrays -/
def LC (b n : Nat) (sh : qSh) (x : Nat) : Prop := isC b n sh (x + 167) 0 51 ∧ isC b n sh (x + 168) 0 42 ∧ isC b n sh (x + 169) 0 42 ∧ isC b n sh (x + 170) 0 51 ∧ isC b n sh (x + 171) 0 14 ∧ isC b n sh (x + 172) 0 56
theorem LC.sh1 {b n : Nat} {sh : qSh} {x : Nat} {v : Nat × Nat} (h : LC b n sh x) : LC b (n + 1) (shu sh (b + n) v) x := ⟨h.1.sh1, h.2.1.sh1, h.2.2.1.sh1, h.2.2.2.1.sh1, h.2.2.2.2.1.sh1, h.2.2.2.2.2.sh1⟩
theorem qTold.sh1 {b n : Nat} {sh : qSh} {R : qR} {o : Nat} {v : Nat × Nat} (h : qTold b n sh R o) : qTold b (n + 1) (shu sh (b + n) v) R o := ⟨h.1, fun p hp => (h.2.1 p hp).sh1, h.2.2⟩
theorem qTabS.sh1 {b n : Nat} {sh : qSh} {R : qR} {o : Nat} {v : Nat × Nat} (h : qTabS b n sh R o) : qTabS b (n + 1) (shu sh (b + n) v) R o := ⟨h.1, fun p hp => (h.2.1 p hp).sh1, h.2.2⟩
theorem qTab.sh1 {b n : Nat} {sh : qSh} {R : qR} {t o : Nat} {v : Nat × Nat} (h : qTab b n sh R t o) : qTab b (n + 1) (shu sh (b + n) v) R t o := ⟨h.1.sh1, h.2.1, h.2.2.sh1⟩
theorem qEver.sh1 {b n : Nat} {sh : qSh} {R : qR} {o : Nat} {v : Nat × Nat} (h : qEver b n sh R o) : qEver b (n + 1) (shu sh (b + n) v) R o := ⟨h.1, fun p hp => (h.2.1 p hp).sh1, h.2.2⟩
theorem qBest.sh1 {b n : Nat} {sh : qSh} {R : qR} {o : Nat} {v : Nat × Nat} (h : qBest b n sh R o) : qBest b (n + 1) (shu sh (b + n) v) R o := ⟨h.1, fun p hp => (h.2.1 p hp).sh1, h.2.2⟩
theorem qSeat.sh1 {b n : Nat} {sh : qSh} {R : qR} {o : Nat} {v : Nat × Nat} (h : qSeat b n sh R o) : qSeat b (n + 1) (shu sh (b + n) v) R o := ⟨h.1, fun p hp => (h.2.1 p hp).sh1, h.2.2⟩
theorem qSheet.sh1 {b n : Nat} {sh : qSh} {R : qR} {o : Nat} {v : Nat × Nat} (h : qSheet b n sh R o) : qSheet b (n + 1) (shu sh (b + n) v) R o := ⟨h.1, fun p hp => (h.2.1 p hp).sh1, h.2.2⟩
theorem qRA.sh1 {b n : Nat} {sh : qSh} {R : qR} {x o d u1 u2 u3 : Nat} {v : Nat × Nat} (h : qRA b n sh R x o d u1 u2 u3) : qRA b (n + 1) (shu sh (b + n) v) R x o d u1 u2 u3 := by
  obtain ⟨z0, z1, z2, z3, z4, z5, z6, z7, z8, z9, z10, z11, z12, z13, z14, z15, z16, z17, z18, z19, z20, z21, z22⟩ := h
  exact ⟨z0, z1.sh1, z2.sh1, z3, z4, z5.sh1, z6, z7.sh1, z8, z9.sh1, z10, z11.sh1, z12, z13.sh1, z14, z15.sh1, z16, z17.sh1, z18, z19.sh1, z20, z21.sh1, fun i hi => ⟨(z22 i hi).1, (z22 i hi).2.sh1⟩⟩
theorem CI.sh1 {b n : Nat} {sh : qSh} {x : Nat} {I L : qI} {R : qR} {V : VV} {v : Nat × Nat} (h : CI b n sh x I L R V) : CI b (n + 1) (shu sh (b + n) v) x I L R V := by
  obtain ⟨o, d, u1, u2, u3, h1, h2⟩ := h
  exact ⟨o, d, u1, u2, u3, h1.sh1, h2⟩
theorem tyA.st {I I2 : qI} {x : Nat} {T : TT} {C : CC} {la : Int → Int} (h : tyA I (x + 167) (x + 168) (x + 169) T C la) (hT : ∀ i, I2 (x + 167) i = I (x + 167) i) (hW : ∀ i, I2 (x + 168) i = I (x + 168) i) (hU : ∀ i, I2 (x + 169) i = I (x + 169) i) : tyA I2 (x + 167) (x + 168) (x + 169) T C la := by
  have e1 : I2 (x + 167) = I (x + 167) := funext hT
  have e2 : I2 (x + 168) = I (x + 168) := funext hW
  have e3 : I2 (x + 169) = I (x + 169) := funext hU
  unfold tyA
  rw [e1, e2, e3]
  exact h
/-- between the turns -/
def TW (E : qEv) (n : Nat) (sh : qSh) (x : Nat) (I L : qI) (R : qR) (V : VV) : Prop := CI E.2.2 n sh x I L R V ∧ 0 < V.T.ng ∧ tyA I (x + 167) (x + 168) (x + 169) V.T V.C V.la ∧ ∀ q i, E.2.2 + n ≤ q → I q i = 0
/-- behind the law's own evening -/
def NW (E : qEv) (n : Nat) (sh : qSh) (x : Nat) (I L : qI) (R : qR) (V : VV) : Prop := CI E.2.2 n sh x I L R V ∧ 0 < V.T.ng ∧ tyA I (x + 167) (x + 168) (x + 169) V.T V.C (evV V).la ∧ (∀ q i, E.2.2 + n ≤ q → I q i = 0) ∧
  (∀ i, 0 ≤ i → i < 44 → I (x + 170) i = I (x + 167) i) ∧ (∀ g, 0 ≤ g → g < V.T.ng → I (x + 170) (44 + g) = V.la g ∧ I (x + 171) g = (evV V).gl g ∧ I (x + 171) (7 + g) = (evV V).pa g) ∧ ∀ c g, 0 ≤ c → c < V.C.co → 0 ≤ g → g < V.T.ng → I (x + 172) (7 * c + g) = (evV V).go c g
/-- what a table shows is the same -/
def sameV (V V' : VV) : Prop := V'.T = V.T ∧ V'.C = V.C ∧ V'.la = V.la ∧ V'.ni = V.ni
theorem sameV.ev {V V' : VV} (h : sameV V V') : evV V' = evV V := by
  unfold evV
  rw [h.1, h.2.1, h.2.2.1]
theorem NW.st {E : qEv} {n : Nat} {sh : qSh} {x : Nat} {I L I' L' : qI} {R R' : qR} {V V' : VV} (h : NW E n sh x I L R V) (hL : LC E.2.2 n sh x) (hC : CI E.2.2 n sh x I' L' R' V') (hV : sameV V V') (hI : frO I I' x 167) : NW E n sh x I' L' R' V' := by
  obtain ⟨h1, h2, h3, h4, h5, h6, h7⟩ := h
  have hx := hL.1.2.1
  have e : ∀ q i, x + 167 ≤ q → I' q i = I q i := fun q i z => hI q i (Or.inr z)
  unfold NW
  rw [hV.1, hV.2.1, hV.2.2.1, hV.ev]
  refine ⟨hC, h2, h3.st (fun i => e _ _ (by omega)) (fun i => e _ _ (by omega)) (fun i => e _ _ (by omega)), fun q i z => (e q i (by omega)).trans (h4 q i z), fun i i0 i1 => ?_, fun g g0 g1 => ?_, fun c g c0 c1 g0 g1 => ?_⟩
  · rw [e _ _ (by omega), e _ _ (by omega)]
    exact h5 i i0 i1
  · rw [e _ _ (by omega), e _ _ (by omega), e _ _ (by omega)]
    exact h6 g g0 g1
  · rw [e _ _ (by omega)]
    exact h7 c g c0 c1 g0 g1
section LAW1
variable {l : Launch} {E : qEv} {Q : List Frame → Array Value → State → State → Prop} {b N : Nat} {xs : Nat → Int32} {n : Nat} {sh : qSh} {x k j : Nat} {cd tn : Int}
/-- a turn: its change, its evening -/
theorem lw_t1 {I L : qI} {R : qR} {V : VV} (hN : N ≤ 260) (hk : k ≤ 600000) (hj : j ≤ 7302250) (hk1 : k + 1 ≤ 600000) (hj1 : j + 6 ≤ 7302250) (ht : 0 ≤ tn ∧ tn < 5) (hL : LC E.2.2 n sh x) (hW : TW E n sh x I L R V)
    (K : ∀ v11 I' L' R' C', NW E (n + 1) (shu sh (E.2.2 + n) (0, 6)) x I' L' R' (V.setC C') → Wk l E (lwY E Q b N xs) mL (k + 1) (j + 6) 139 [(0, .ref b), (1, .ref x), (2, .ref (x + 167)), (3, .ref (x + 168)), (4, .ref (x + 169)), (5, .int (zI cd)), (6, .int (zI V.T.ng)), (7, .ref (x + 170)), (8, .ref (x + 171)), (9, .ref (x + 172)), (10, .int (zI tn)), (11, .int (zI v11))] [] (n + 1, shu sh (E.2.2 + n) (0, 6), I', L', R')) :
    Wk l E (lwY E Q b N xs) mL k j 93 [(0, .ref b), (1, .ref x), (2, .ref (x + 167)), (3, .ref (x + 168)), (4, .ref (x + 169)), (5, .int (zI cd)), (6, .int (zI V.T.ng)), (7, .ref (x + 170)), (8, .ref (x + 171)), (9, .ref (x + 172)), (10, .int (zI tn))] [] (n, sh, I, L, R) := by
  obtain ⟨cT, cW, cU, cP, cG, cO⟩ := id hL
  obtain ⟨hC, hp, hA, hz⟩ := hW
  have hO := hC.isX
  have hx1 := cT.2.1
  have hx2 := cO.2.1
  refine wk_aload_n (i := 0) (q := 94) dL_law_93 rfl rfl rfl ?_
  refine wk_bipush (q := 96) dL_law_94 rfl (by decide +kernel) ?_
  refine wk_iload (i := 10) (q := 98) dL_law_96 rfl rfl ?_
  refine wk_iadd (q := 99) dL_law_98 rfl ?_
  refine wk_sQ2 (q := 102) dL_law_99 rfl sl_L_9 (fun _ h => ⟨h.1, h.2.1⟩) (ct_cell hN ⟨by omega, by omega⟩) ⟨Nat.le_of_ble_eq_true rfl, Nat.le_of_ble_eq_true rfl, hk, hj⟩ (Nat.le_of_ble_eq_true rfl) (fun v99 hv99 => ?_)
  refine wk_istore (i := 11) (lo' := [(0, _), (1, _), (2, _), (3, _), (4, _), (5, _), (6, _), (7, _), (8, _), (9, _), (10, _), (11, _)]) (q := 104) dL_law_102 rfl (by decide) rfl ?_
  refine wk_aload_n (i := 1) (q := 105) dL_law_104 rfl rfl rfl ?_
  refine wk_iload (i := 11) (q := 107) dL_law_105 rfl rfl ?_
  refine wk_aload_n (i := 2) (q := 108) dL_law_107 rfl rfl rfl ?_
  refine wk_aload_n (i := 3) (q := 109) dL_law_108 rfl rfl rfl ?_
  refine wk_aload (i := 4) (q := 111) dL_law_109 rfl rfl ?_
  refine wk_sZ5 (q := 114) dL_law_111 rfl sl_L_53 (ct_change cT cW cU hp hC hA) ⟨Nat.le_of_ble_eq_true rfl, Nat.le_of_ble_eq_true rfl, hk, hj⟩ (Nat.le_of_ble_eq_true rfl) (fun v111 I111 L111 R111 hv111 => ?_)
  obtain ⟨rfl, C', hC1, hA1, FR1⟩ := hv111
  refine wk_if_ne (t := 119) (q := 117) dL_law_114 rfl rfl (by omega) (fun hc114 => ?_) (fun hc114 => ?_)
  · refine wk_aload_n (i := 2) (q := 120) dL_law_119 rfl rfl rfl ?_
    refine wk_aload (i := 7) (q := 122) dL_law_120 rfl rfl ?_
    refine wk_sV2 (q := 125) dL_law_122 rfl sl_L_57 (ct_like cT cP (by omega)) ⟨Nat.le_of_ble_eq_true rfl, Nat.le_of_ble_eq_true rfl, hk, hj⟩ (Nat.le_of_ble_eq_true rfl) (fun I122 L122 R122 hv122 => ?_)
    obtain ⟨rfl, rfl, rfl⟩ := hv122
    obtain ⟨hT, hNo, hLA⟩ := hC1.okk.tab hp
    have c0 : ∀ q i, q ≠ x + 170 → cpI I111 (x + 167) (x + 170) 0 0 (51 : Nat) q i = I111 q i := fun q i z => if_neg (fun y => z y.1)
    have c1 : ∀ i : Int, 0 ≤ i → i < 51 → cpI I111 (x + 167) (x + 170) 0 0 (51 : Nat) (x + 170) i = I111 (x + 167) i := fun i i0 i1 => by
      unfold cpI
      rw [if_pos ⟨rfl, i0, by omega⟩]
      exact congrArg (I111 (x + 167)) (by omega)
    have hC2 := hC1.frm (I' := cpI I111 (x + 167) (x + 170) 0 0 (51 : Nat)) (fun c i z1 z2 => c0 c i (by omega))
    have hA2 := hA1.st (I2 := cpI I111 (x + 167) (x + 170) 0 0 (51 : Nat)) (fun i => c0 _ i (by omega)) (fun i => c0 _ i (by omega)) (fun i => c0 _ i (by omega))
    have hz2 : ∀ q i, E.2.2 + n ≤ q → cpI I111 (x + 167) (x + 170) 0 0 (51 : Nat) q i = 0 := fun q i z => (c0 q i (by omega)).trans ((FR1 q i (by omega)).trans (hz q i z))
    have hnt := ct_night (l := l) (E := E) (n := n) (sh := sh) (L := L122) (R := R122) hT hNo hLA.ok hA2 cT cW cU cG cO (fun i => hz2 _ i (Nat.le_refl _))
    refine wk_aload_n (i := 2) (q := 126) dL_law_125 rfl rfl rfl ?_
    refine wk_aload_n (i := 3) (q := 127) dL_law_126 rfl rfl rfl ?_
    refine wk_aload (i := 4) (q := 129) dL_law_127 rfl rfl ?_
    refine wk_iload (i := 6) (q := 131) dL_law_129 rfl rfl ?_
    refine wk_iconst (q := 132) dL_law_131 rfl ?_
    refine wk_aload (i := 8) (q := 134) dL_law_132 rfl rfl ?_
    refine wk_aload (i := 9) (q := 136) dL_law_134 rfl rfl ?_
    refine wk_ins (st := []) (As := [.ref (x + 167), .ref (x + 168), .ref (x + 169), .int (zI V.T.ng), .int (zI (-1)), .ref (x + 171), .ref (x + 172)]) (q := 139) (d := 1) (mc := 1) (ms := 6) dL_law_136 rfl sl_L_61 rfl hnt ⟨Nat.le_of_ble_eq_true rfl, Nat.le_of_ble_eq_true rfl, hk1, hj1⟩ (Nat.le_of_ble_eq_true rfl) (fun r S' hF _ => ?_)
    obtain ⟨rfl, I2, rfl, f1, f2, f3⟩ := hF
    refine K v99 I2 _ _ C' ⟨(hC2.frm (fun c i z1 z2 => f1 c i (by omega) (by omega) (by omega) (by omega))).sh1, hp, ?_, fun q i z => (f1 q i (by omega) (by omega) (by omega) (by omega)).trans (hz2 q i (by omega)), fun i i0 i1 => ?_, fun g g0 g1 => ⟨?_, (f2 g g0 g1).2.1, (f2 g g0 g1).2.2⟩, f3⟩
    · obtain ⟨b0, b1, b2, b3, b4, b5, b6⟩ := hA2
      have e1 : ∀ i, i < 44 → I2 (x + 167) i = cpI I111 (x + 167) (x + 170) 0 0 (51 : Nat) (x + 167) i := fun i z => f1 _ i (by omega) (by omega) (by omega) (by omega)
      have hn7 : V.T.ng ≤ 7 := hT.2.1
      have hd6 : V.T.nd ≤ 6 := hT.2.2.2.1
      refine ⟨(e1 _ (by omega)).trans b0, (e1 _ (by omega)).trans b1, (e1 _ (by omega)).trans b2, (e1 _ (by omega)).trans b3, fun d d0 d1 => ?_, fun g g0 g1 => ?_, fun g d g0 g1 d0 d1 => ?_⟩
      · have d1' : d < V.T.nd := d1
        rw [e1 _ (by omega), e1 _ (by omega)]
        exact b4 d d0 d1
      · have g1' : g < V.T.ng := g1
        rw [e1 _ (by omega), e1 _ (by omega), e1 _ (by omega), e1 _ (by omega)]
        obtain ⟨y1, y2, y3, y4, y5⟩ := b5 g g0 g1
        exact ⟨y1, y2, y3, y4, (f2 g g0 g1).1⟩
      · rw [f1 _ _ (by omega) (by omega) (by omega) (by omega), f1 _ _ (by omega) (by omega) (by omega) (by omega)]
        exact b6 g d g0 g1 d0 d1
    · rw [f1 _ _ (by omega) (by omega) (by omega) (by omega), f1 _ _ (by omega) (by omega) (by omega) (by omega), c1 i i0 (by omega), c0 _ _ (by omega)]
    · have g1' : g < V.T.ng := g1
      have hn7 : V.T.ng ≤ 7 := hT.2.1
      rw [f1 _ _ (by omega) (by omega) (by omega) (by omega), c1 _ (by omega) (by omega)]
      exact (hA1.2.2.2.2.2.1 g g0 g1).2.2.2.2
  · omega
end LAW1
