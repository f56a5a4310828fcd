/-! what the calls answer, and the state behind them; the class's (1) -/
def seatN (od : Int → Int) (g : Int) : Nat → Int
  | 0 => 0
  | k + 1 => if od k = g then (k : Int) else seatN od g k
theorem seatN_ok {od : Int → Int} {g s0 : Int} {n : Nat} (hinj : ∀ s s' : Int, 0 ≤ s → s < n → 0 ≤ s' → s' < n → od s = od s' → s = s') (h0 : 0 ≤ s0) (h1 : s0 < n) (hg : od s0 = g) : ∀ k : Nat, k ≤ n → s0 < k → seatN od g k = s0
  | 0, _, h => by omega
  | k + 1, hk, h => by
    unfold seatN
    split
    · rename_i hq
      exact hinj k s0 (by omega) (by omega) h0 h1 (hq.trans hg.symm)
    · rename_i hq
      have : s0 ≠ k := fun e => hq (by rw [← e]; exact hg)
      exact seatN_ok hinj h0 h1 hg k (by omega) (by omega)
def seatI (V : VV) (g : Int) : Int := seatN V.C.od g V.T.ng.toNat
theorem seatI_ok {V : VV} (h : V.ok) {g : Int} (h0 : 0 ≤ g) (h1 : g < V.T.ng) : 0 ≤ seatI V g ∧ seatI V g < V.T.ng ∧ ∀ s, 0 ≤ s → s < V.T.ng → (V.C.od s = g ↔ s = seatI V g) := by
  obtain ⟨t1, t2, t3⟩ := h.tab (by omega)
  obtain ⟨s0, a0, a1, a2⟩ := t2.2.2.2.2 g h0 h1
  have hinj := t2.1.2.2.2.2.2.2.2.2.2.1
  rw [t2.2.1] at hinj
  have e : seatI V g = s0 := seatN_ok (n := V.T.ng.toNat) (fun s s' p0 p1 p2 p3 q => hinj s s' p0 (by omega) p2 (by omega) q) a0 (by omega) a2 _ (Nat.le_refl _) (by omega)
  rw [e]
  refine ⟨a0, a1, fun s s0' s1 => ⟨fun q => hinj s s0 s0' s1 a0 a1 (q.trans a2.symm), fun q => by rw [q]; exact a2⟩⟩
def r_ofGuest (V : VV) (g w : Int) : Int := if 0 ≤ g ∧ g < V.T.ng then (if w = 0 then V.T.kd g else if w = 1 then V.T.kn g else if w = 2 then V.T.ct g else if w = 3 then seatI V g else if w = 4 then V.la g else -2) else -1
def CC.setSa (C : CC) (sa : Int → Int → Int) : CC := (sa, C.2)
def CC.setSt (C : CC) (v : Int) : CC := (C.1, C.2.1, C.2.2.1, C.2.2.2.1, v, C.2.2.2.2.2)
def CC.setCo (C : CC) (v : Int) : CC := (C.1, C.2.1, C.2.2.1, C.2.2.2.1, C.2.2.2.2.1, v, C.2.2.2.2.2.2)
def r_say (V : VV) (g d v : Int) : Int := if ¬ ((0 ≤ g ∧ g < V.T.ng) ∧ 0 ≤ d ∧ d < V.T.nd) then -1 else if ¬ (0 ≤ v ∧ v ≤ 9) then -2 else if V.T.wo g d = -1 then -3 else V.C.sa g d
def s_say (V : VV) (g d v : Int) : VV := if ¬ ((0 ≤ g ∧ g < V.T.ng) ∧ 0 ≤ d ∧ d < V.T.nd) then V else if ¬ (0 ≤ v ∧ v ≤ 9) then V else if V.T.wo g d = -1 then V else V.setC (V.C.setSa (u2 V.C.sa g d v))
def r_swap (V : VV) (g h : Int) : Int := if (0 ≤ g ∧ g < V.T.ng) ∧ 0 ≤ h ∧ h < V.T.ng then 1 else -1
def s_swap (V : VV) (g h : Int) : VV := if (0 ≤ g ∧ g < V.T.ng) ∧ 0 ≤ h ∧ h < V.T.ng then V.setC (V.C.setOd (u1 (u1 V.C.od (seatI V g) h) (seatI V h) g)) else V
def r_step (V : VV) (v : Int) : Int := if 1 ≤ v ∧ v ≤ V.T.ng - 1 then V.C.st else -2
def s_step (V : VV) (v : Int) : VV := if 1 ≤ v ∧ v ≤ V.T.ng - 1 then V.setC (V.C.setSt v) else V
def r_courses (V : VV) (v : Int) : Int := if ¬ (1 ≤ v ∧ v ≤ 8) then -2 else if 0 < V.T.ng then V.C.co else -3
def s_courses (V : VV) (v : Int) : VV := if ¬ (1 ≤ v ∧ v ≤ 8) then V else if 0 < V.T.ng then V.setC (V.C.setCo v) else V
def cntL (la : Int → Int) : Nat → Int
  | 0 => 0
  | k + 1 => cntL la k + if la k = -8 then 0 else 1
theorem CC.ok_sa {C : CC} {T : TT} (h : C.ok T) {g d v : Int} (hv : 0 ≤ v ∧ v ≤ 9) (hw : T.wo g d ≠ -1) : (C.setSa (u2 C.sa g d v)).ok T := by
  obtain ⟨z1, z2, z3, z4, z5, z6, z7, z8, z9, z10, z11⟩ := h
  refine ⟨z1, z2, z3, z4, z5, z6, z7, z8, z9, z10, fun a a0 a1 => ⟨(z11 a a0 a1).1, (z11 a a0 a1).2.1, fun b b0 b1 => ?_⟩⟩
  show -1 ≤ u2 C.sa g d v a b ∧ u2 C.sa g d v a b ≤ 9 ∧ (u2 C.sa g d v a b = -1 ↔ T.wo a b = -1)
  by_cases hq : a = g ∧ b = d
  · rw [hq.1, hq.2, u2_eq]
    exact ⟨by omega, by omega, by omega⟩
  · rw [u2_ne (by omega)]
    exact (z11 a a0 a1).2.2 b b0 b1
/-- behind what writes the table as it stands -/
theorem CI0.nowW {b n : Nat} {sh : qSh} {x : Nat} {I L I' : qI} {R : qR} {V V' : VV} {o d u1 u2 u3 : Nat} (h : CI0 b n sh x I L R V o d u1 u2 u3) (hV : V'.T = V.T ∧ V'.ni = V.ni ∧ V'.tr = V.tr ∧ V'.fa = V.fa) (hV2 : V'.th = V.th ∧ V'.so = V.so ∧ V'.sl = V.sl ∧ V'.ce = V.ce) (hok : V'.ok) (hp : 0 < V.T.ng) (hI : ∀ c i, ¬ (x + 30 ≤ c ∧ c < x + 68) → ¬ (c = x + 150 ∧ i = 0) → ¬ (c = x + 154 ∧ i = 0) → I' c i = I c i)
    (hN : shC I' (x + 30) V'.T V'.C ∧ I' (x + 30) 8 = -1 ∧ ∀ g, 0 ≤ g → g < V'.T.ng → I' (x + 30 + 17) g = V'.la g) (hB : caB I' L x V'.T V'.C) (hC : caS I' x V'.T V'.C) : CI0 b n sh x I' L R V' o d u1 u2 u3 :=
  h.gen h.1 hV.1 hok (fun c i q1 q2 => hI c i (by omega) (by omega) (by omega)) (by rw [hI _ _ (by omega) (by omega) (by omega), hV.2.1]; exact h.2.2.2.1) (by rw [hI _ _ (by omega) (by omega) (by omega), hV.2.2.1]; exact h.2.2.2.2.1) (by rw [hI _ _ (by omega) (by omega) (by omega), hV.2.2.2]; exact h.2.2.2.2.2.1)
    (h.2.2.2.2.2.2.1.cg hV2 (fun c i q1 q2 => hI c i (by omega) (by omega) (by omega))) (fun q => by omega) (fun _ => hN) hB hC
section CLS2
variable {l : Launch} {E : qEv} {n : Nat} {sh : qSh} {I L : qI} {R : qR}
theorem CI0.seat {b : Nat} {x : Nat} {V : VV} {o d u1 u2 u3 : Nat} (h : CI0 b n sh x I L R V o d u1 u2 u3) {g : Int} (h0 : 0 ≤ g) (h1 : g < V.T.ng) : I (x + 30) 5 = V.T.ng ∧ (∀ s, 0 ≤ s → s < V.T.ng → in32 (I (x + 30 + 15) s)) ∧ (0 ≤ seatI V g ∧ seatI V g < V.T.ng) ∧ ∀ s, 0 ≤ s → s < V.T.ng → (I (x + 30 + 15) s = g ↔ s = seatI V g) := by
  have hok := h.2.2.1
  have hng := hok.ng
  obtain ⟨t1, t2, t3⟩ := hok.tab (by omega)
  obtain ⟨s1, s2, s3⟩ := seatI_ok hok h0 h1
  rcases h.2.2.2.2.2.2.2.1.2 with q | ⟨q1, q2, q3, q4, q5⟩
  · omega
  · have hod := q3.2.2.2.1
    rw [t2.2.1] at hod
    refine ⟨q3.1.trans t2.2.1, fun s a0 a1 => ?_, ⟨s1, s2⟩, fun s a0 a1 => by rw [hod s a0 a1]; exact s3 s a0 a1⟩
    rw [hod s a0 a1]
    have := od_in t2.1 a0 (by rw [t2.2.1]; exact a1)
    omega
theorem oc_ofGuest {x : Nat} {V : VV} {g w : Int} (h : CI E.2.2 n sh x I L R V) (hg : in32 g) (hw : in32 w) :
    Ct l E 1 mX6_ofGuest [.ref x, .int (zI g), .int (zI w)] (n, sh, I, L, R) 0 0 (qP n sh I L R (fun v => v = r_ofGuest V g w)) := by
  obtain ⟨o, dr, u1, u2, u3, hh⟩ := h
  obtain ⟨hX, hod, hok, h10, h11, h12, hS, hT, hB, hC⟩ := id hh
  have hng := hok.ng
  have e7 := hT.1.2.1
  have eg := hT.1.2.2.2
  refine Ct.of (lo := [(0, _), (1, _), (2, _)]) ok_X6_ofGuest (Nat.le_of_ble_eq_true rfl) rfl ?_
  refine wk_aload_n (i := 0) (q := 1) dX6_ofGuest_0 rfl rfl rfl ?_
  refine wk_iload_n (i := 1) (q := 2) dX6_ofGuest_1 rfl rfl rfl ?_
  refine wk_cP1 (q := 5) dX6_ofGuest_2 rfl vl_X6_102 ⟨_, _, rfl⟩ hX.ob (ct_X6_isGuest hX hg (by omega)) (qRo_m ok_X6_isGuest (by decide) (Nat.le_refl _) (Nat.le_refl _)) (Nat.le_of_ble_eq_true rfl) (fun v2 hv2 => ?_)
  rcases hv2 with ⟨rfl, hv2⟩ | ⟨rfl, hv2⟩
  · rw [e7] at hv2
    refine wk_if_ne (t := 10) (q := 8) dX6_ofGuest_5 rfl rfl (by omega) (fun _ => ?_) (fun hq => absurd hq (by decide))
    refine wk_iload_n (i := 2) (q := 11) dX6_ofGuest_10 rfl rfl rfl ?_
    refine wk_ts5 (t0 := 44) (t1 := 54) (t2 := 64) (t3 := 74) (t4 := 83) (td := 93) dX6_ofGuest_11 rfl rfl rfl rfl rfl rfl (by omega) (fun hs11 => ?_) (fun hs11 => ?_) (fun hs11 => ?_) (fun hs11 => ?_) (fun hs11 => ?_) (fun hs11 => ?_)
    · refine wk_aload_n (i := 0) (q := 45) dX6_ofGuest_44 rfl rfl rfl ?_
      refine wk_getR (fi := 1) (q := 48) dX6_ofGuest_45 rfl fl_X6_20 rfl rfl hX.ob hX.r1 ?_
      refine wk_getR (fi := 2) (q := 51) dX6_ofGuest_48 rfl fl_X6_105 rfl rfl hX.o1.ob hX.o1.r2 ?_
      refine wk_iload_n (i := 1) (q := 52) dX6_ofGuest_51 rfl rfl rfl ?_
      refine wk_iald (q := 53) dX6_ofGuest_52 rfl hX.o1.s2 (by omega) ?_
      refine wk_iret dX6_ofGuest_53 rfl ⟨Nat.le_refl _, Nat.le_refl _⟩ rfl ?_
      refine ⟨_, _, _, _, rfl, rfl, rfl, rfl, rfl, ?_⟩
      unfold r_ofGuest
      first
        | rw [if_neg hv2]
        | (rw [if_pos hv2, if_pos hs11]; exact (eg g hv2.1 hv2.2).1)
        | (rw [if_pos hv2, if_neg (by omega), if_pos hs11]; exact (eg g hv2.1 hv2.2).2.1)
        | (rw [if_pos hv2, if_neg (by omega), if_neg (by omega), if_pos hs11]; exact (eg g hv2.1 hv2.2).2.2.1)
        | (rw [if_pos hv2, if_neg (by omega), if_neg (by omega), if_neg (by omega), if_pos hs11]; exact hv79)
        | (rw [if_pos hv2, if_neg (by omega), if_neg (by omega), if_neg (by omega), if_neg (by omega), if_pos hs11]; exact (hT.2.resolve_left (fun q => by omega)).2.2.2.2 g hv2.1 hv2.2)
        | rw [if_pos hv2, if_neg (by omega), if_neg (by omega), if_neg (by omega), if_neg (by omega), if_neg (by omega)]
    · refine wk_aload_n (i := 0) (q := 55) dX6_ofGuest_54 rfl rfl rfl ?_
      refine wk_getR (fi := 1) (q := 58) dX6_ofGuest_55 rfl fl_X6_20 rfl rfl hX.ob hX.r1 ?_
      refine wk_getR (fi := 3) (q := 61) dX6_ofGuest_58 rfl fl_X6_108 rfl rfl hX.o1.ob hX.o1.r3 ?_
      refine wk_iload_n (i := 1) (q := 62) dX6_ofGuest_61 rfl rfl rfl ?_
      refine wk_iald (q := 63) dX6_ofGuest_62 rfl hX.o1.s3 (by omega) ?_
      refine wk_iret dX6_ofGuest_63 rfl ⟨Nat.le_refl _, Nat.le_refl _⟩ rfl ?_
      refine ⟨_, _, _, _, rfl, rfl, rfl, rfl, rfl, ?_⟩
      unfold r_ofGuest
      first
        | rw [if_neg hv2]
        | (rw [if_pos hv2, if_pos hs11]; exact (eg g hv2.1 hv2.2).1)
        | (rw [if_pos hv2, if_neg (by omega), if_pos hs11]; exact (eg g hv2.1 hv2.2).2.1)
        | (rw [if_pos hv2, if_neg (by omega), if_neg (by omega), if_pos hs11]; exact (eg g hv2.1 hv2.2).2.2.1)
        | (rw [if_pos hv2, if_neg (by omega), if_neg (by omega), if_neg (by omega), if_pos hs11]; exact hv79)
        | (rw [if_pos hv2, if_neg (by omega), if_neg (by omega), if_neg (by omega), if_neg (by omega), if_pos hs11]; exact (hT.2.resolve_left (fun q => by omega)).2.2.2.2 g hv2.1 hv2.2)
        | rw [if_pos hv2, if_neg (by omega), if_neg (by omega), if_neg (by omega), if_neg (by omega), if_neg (by omega)]
    · refine wk_aload_n (i := 0) (q := 65) dX6_ofGuest_64 rfl rfl rfl ?_
      refine wk_getR (fi := 1) (q := 68) dX6_ofGuest_65 rfl fl_X6_20 rfl rfl hX.ob hX.r1 ?_
      refine wk_getR (fi := 4) (q := 71) dX6_ofGuest_68 rfl fl_X6_111 rfl rfl hX.o1.ob hX.o1.r4 ?_
      refine wk_iload_n (i := 1) (q := 72) dX6_ofGuest_71 rfl rfl rfl ?_
      refine wk_iald (q := 73) dX6_ofGuest_72 rfl hX.o1.s4 (by omega) ?_
      refine wk_iret dX6_ofGuest_73 rfl ⟨Nat.le_refl _, Nat.le_refl _⟩ rfl ?_
      refine ⟨_, _, _, _, rfl, rfl, rfl, rfl, rfl, ?_⟩
      unfold r_ofGuest
      first
        | rw [if_neg hv2]
        | (rw [if_pos hv2, if_pos hs11]; exact (eg g hv2.1 hv2.2).1)
        | (rw [if_pos hv2, if_neg (by omega), if_pos hs11]; exact (eg g hv2.1 hv2.2).2.1)
        | (rw [if_pos hv2, if_neg (by omega), if_neg (by omega), if_pos hs11]; exact (eg g hv2.1 hv2.2).2.2.1)
        | (rw [if_pos hv2, if_neg (by omega), if_neg (by omega), if_neg (by omega), if_pos hs11]; exact hv79)
        | (rw [if_pos hv2, if_neg (by omega), if_neg (by omega), if_neg (by omega), if_neg (by omega), if_pos hs11]; exact (hT.2.resolve_left (fun q => by omega)).2.2.2.2 g hv2.1 hv2.2)
        | rw [if_pos hv2, if_neg (by omega), if_neg (by omega), if_neg (by omega), if_neg (by omega), if_neg (by omega)]
    · refine wk_aload_n (i := 0) (q := 75) dX6_ofGuest_74 rfl rfl rfl ?_
      refine wk_getR (fi := 3) (q := 78) dX6_ofGuest_75 rfl fl_X6_30 rfl rfl hX.ob hX.r3 ?_
      refine wk_iload_n (i := 1) (q := 79) dX6_ofGuest_78 rfl rfl rfl ?_
      refine wk_cP1 (q := 82) dX6_ofGuest_79 rfl vl_X6_114 ⟨_, _, rfl⟩ hX.t3.1.ob (ct_X4_seatOf hX.t3 (hh.seat hv2.1 hv2.2).1 (by omega) hg (hh.seat hv2.1 hv2.2).2.1 (hh.seat hv2.1 hv2.2).2.2.1 (hh.seat hv2.1 hv2.2).2.2.2) (qRo_m ok_X4_seatOf (by decide) (Nat.le_refl _) (Nat.le_refl _)) (Nat.le_of_ble_eq_true rfl) (fun v79 hv79 => ?_)
      refine wk_iret dX6_ofGuest_82 rfl ⟨Nat.le_refl _, Nat.le_refl _⟩ rfl ?_
      refine ⟨_, _, _, _, rfl, rfl, rfl, rfl, rfl, ?_⟩
      unfold r_ofGuest
      first
        | rw [if_neg hv2]
        | (rw [if_pos hv2, if_pos hs11]; exact (eg g hv2.1 hv2.2).1)
        | (rw [if_pos hv2, if_neg (by omega), if_pos hs11]; exact (eg g hv2.1 hv2.2).2.1)
        | (rw [if_pos hv2, if_neg (by omega), if_neg (by omega), if_pos hs11]; exact (eg g hv2.1 hv2.2).2.2.1)
        | (rw [if_pos hv2, if_neg (by omega), if_neg (by omega), if_neg (by omega), if_pos hs11]; exact hv79)
        | (rw [if_pos hv2, if_neg (by omega), if_neg (by omega), if_neg (by omega), if_neg (by omega), if_pos hs11]; exact (hT.2.resolve_left (fun q => by omega)).2.2.2.2 g hv2.1 hv2.2)
        | rw [if_pos hv2, if_neg (by omega), if_neg (by omega), if_neg (by omega), if_neg (by omega), if_neg (by omega)]
    · refine wk_aload_n (i := 0) (q := 84) dX6_ofGuest_83 rfl rfl rfl ?_
      refine wk_getR (fi := 3) (q := 87) dX6_ofGuest_84 rfl fl_X6_30 rfl rfl hX.ob hX.r3 ?_
      refine wk_getR (fi := 3) (q := 90) dX6_ofGuest_87 rfl fl_X6_118 rfl rfl hX.t3.1.ob hX.t3.1.r3 ?_
      refine wk_iload_n (i := 1) (q := 91) dX6_ofGuest_90 rfl rfl rfl ?_
      refine wk_iald (q := 92) dX6_ofGuest_91 rfl hX.t3.1.s3 (by omega) ?_
      refine wk_iret dX6_ofGuest_92 rfl ⟨Nat.le_refl _, Nat.le_refl _⟩ rfl ?_
      refine ⟨_, _, _, _, rfl, rfl, rfl, rfl, rfl, ?_⟩
      unfold r_ofGuest
      first
        | rw [if_neg hv2]
        | (rw [if_pos hv2, if_pos hs11]; exact (eg g hv2.1 hv2.2).1)
        | (rw [if_pos hv2, if_neg (by omega), if_pos hs11]; exact (eg g hv2.1 hv2.2).2.1)
        | (rw [if_pos hv2, if_neg (by omega), if_neg (by omega), if_pos hs11]; exact (eg g hv2.1 hv2.2).2.2.1)
        | (rw [if_pos hv2, if_neg (by omega), if_neg (by omega), if_neg (by omega), if_pos hs11]; exact hv79)
        | (rw [if_pos hv2, if_neg (by omega), if_neg (by omega), if_neg (by omega), if_neg (by omega), if_pos hs11]; exact (hT.2.resolve_left (fun q => by omega)).2.2.2.2 g hv2.1 hv2.2)
        | rw [if_pos hv2, if_neg (by omega), if_neg (by omega), if_neg (by omega), if_neg (by omega), if_neg (by omega)]
    · refine wk_bipush (q := 95) dX6_ofGuest_93 rfl (by decide +kernel) ?_
      refine wk_iret dX6_ofGuest_95 rfl ⟨Nat.le_refl _, Nat.le_refl _⟩ rfl ?_
      refine ⟨_, _, _, _, rfl, rfl, rfl, rfl, rfl, ?_⟩
      unfold r_ofGuest
      first
        | rw [if_neg hv2]
        | (rw [if_pos hv2, if_pos hs11]; exact (eg g hv2.1 hv2.2).1)
        | (rw [if_pos hv2, if_neg (by omega), if_pos hs11]; exact (eg g hv2.1 hv2.2).2.1)
        | (rw [if_pos hv2, if_neg (by omega), if_neg (by omega), if_pos hs11]; exact (eg g hv2.1 hv2.2).2.2.1)
        | (rw [if_pos hv2, if_neg (by omega), if_neg (by omega), if_neg (by omega), if_pos hs11]; exact hv79)
        | (rw [if_pos hv2, if_neg (by omega), if_neg (by omega), if_neg (by omega), if_neg (by omega), if_pos hs11]; exact (hT.2.resolve_left (fun q => by omega)).2.2.2.2 g hv2.1 hv2.2)
        | rw [if_pos hv2, if_neg (by omega), if_neg (by omega), if_neg (by omega), if_neg (by omega), if_neg (by omega)]
  · rw [e7] at hv2
    refine wk_if_ne (t := 10) (q := 8) dX6_ofGuest_5 rfl rfl (by omega) (fun hq => absurd hq (by decide)) (fun _ => ?_)
    refine wk_iconst (q := 9) dX6_ofGuest_8 rfl ?_
    refine wk_iret dX6_ofGuest_9 rfl ⟨Nat.le_refl _, Nat.le_refl _⟩ rfl ?_
    refine ⟨_, _, _, _, rfl, rfl, rfl, rfl, rfl, ?_⟩
    unfold r_ofGuest
    first
      | rw [if_neg hv2]
      | (rw [if_pos hv2, if_pos hs11]; exact (eg g hv2.1 hv2.2).1)
      | (rw [if_pos hv2, if_neg (by omega), if_pos hs11]; exact (eg g hv2.1 hv2.2).2.1)
      | (rw [if_pos hv2, if_neg (by omega), if_neg (by omega), if_pos hs11]; exact (eg g hv2.1 hv2.2).2.2.1)
      | (rw [if_pos hv2, if_neg (by omega), if_neg (by omega), if_neg (by omega), if_pos hs11]; exact hv79)
      | (rw [if_pos hv2, if_neg (by omega), if_neg (by omega), if_neg (by omega), if_neg (by omega), if_pos hs11]; exact (hT.2.resolve_left (fun q => by omega)).2.2.2.2 g hv2.1 hv2.2)
      | rw [if_pos hv2, if_neg (by omega), if_neg (by omega), if_neg (by omega), if_neg (by omega), if_neg (by omega)]
theorem CI0.full {b : Nat} {x : Nat} {V : VV} {o d u1 u2 u3 : Nat} (h : CI0 b n sh x I L R V o d u1 u2 u3) (hp : 0 < V.T.ng) : V.T.ok ∧ V.C.now V.T ∧ LA2 V.T V.la ∧ u1 = o ∧ shC I (x + 30) V.T V.C ∧ I (x + 30) 8 = -1 ∧ ∀ g, 0 ≤ g → g < V.T.ng → I (x + 30 + 17) g = V.la g := by
  obtain ⟨t1, t2, t3⟩ := h.2.2.1.tab hp
  rcases h.2.2.2.2.2.2.2.1.2 with q | ⟨q1, q2, q3, q4, q5⟩
  · omega
  · exact ⟨t1, t2, t3, q2, q3, q4, q5⟩
theorem oc_say {x : Nat} {V : VV} {g d v : Int} (h : CI E.2.2 n sh x I L R V) (hg : in32 g) (hd : in32 d) (hv : in32 v) :
    Ct l E 1 mX6_say [.ref x, .int (zI g), .int (zI d), .int (zI v)] (n, sh, I, L, R) 0 0 (qZ n sh (cpZ E.2.2 n sh x I R (r_say V g d v) (s_say V g d v))) := by
  obtain ⟨o, dr, u1', u2', u3', hh⟩ := h
  obtain ⟨hX, hod, hok, h10, h11, h12, hS, hT, hB, hC⟩ := id hh
  have hng := hok.ng
  have e6 := hT.1.1
  have e7 := hT.1.2.1
  have eg := hT.1.2.2.2
  have same : ∀ r : Int, r = r_say V g d v → s_say V g d v = V → ∃ v' I' L' R', some (Value.int (zI r)) = some (.int (zI v')) ∧ (n, sh, I, L, R) = (n, sh, I', L', R') ∧ cpZ E.2.2 n sh x I R (r_say V g d v) (s_say V g d v) v' I' L' R' := by
    intro r h1 h2
    exact ⟨_, _, _, _, rfl, rfl, h1, by rw [h2]; exact hh.ci, frO.rf, frO.rf⟩
  refine Ct.of (lo := [(0, _), (1, _), (2, _), (3, _)]) ok_X6_say (Nat.le_of_ble_eq_true rfl) rfl ?_
  refine wk_aload_n (i := 0) (q := 1) dX6_say_0 rfl rfl rfl ?_
  refine wk_iload_n (i := 1) (q := 2) dX6_say_1 rfl rfl rfl ?_
  refine wk_cP1 (q := 5) dX6_say_2 rfl vl_X6_102 ⟨_, _, rfl⟩ hX.ob (ct_X6_isGuest hX hg (by omega)) (qRo_m ok_X6_isGuest (by decide) (Nat.le_refl _) (Nat.le_refl _)) (Nat.le_of_ble_eq_true rfl) (fun v2 hv2 => ?_)
  rcases hv2 with ⟨rfl, hv2⟩ | ⟨rfl, hv2⟩
  · rw [e7] at hv2
    refine wk_if_eq (t := 16) (q := 8) dX6_say_5 rfl rfl (by omega) (fun hq => absurd hq (by decide)) (fun _ => ?_)
    refine wk_aload_n (i := 0) (q := 9) dX6_say_8 rfl rfl rfl ?_
    refine wk_iload_n (i := 2) (q := 10) dX6_say_9 rfl rfl rfl ?_
    refine wk_cP1 (q := 13) dX6_say_10 rfl vl_X6_91 ⟨_, _, rfl⟩ hX.ob (ct_X6_isDish hX hd (by omega)) (qRo_m ok_X6_isDish (by decide) (Nat.le_refl _) (Nat.le_refl _)) (Nat.le_of_ble_eq_true rfl) (fun v10 hv10 => ?_)
    rcases hv10 with ⟨rfl, hv10⟩ | ⟨rfl, hv10⟩
    · rw [e6] at hv10
      refine wk_if_ne (t := 18) (q := 16) dX6_say_13 rfl rfl (by omega) (fun _ => ?_) (fun hq => absurd hq (by decide))
      refine wk_iload_n (i := 3) (q := 19) dX6_say_18 rfl rfl rfl ?_
      refine wk_if_lt (t := 28) (q := 22) dX6_say_19 rfl rfl (by omega) (fun hc19 => ?_) (fun hc19 => ?_)
      · refine wk_bipush (q := 30) dX6_say_28 rfl (by decide +kernel) ?_
        refine wk_iret dX6_say_30 rfl ⟨Nat.le_refl _, Nat.le_refl _⟩ rfl ?_
        refine same _ ?_ ?_
        · unfold r_say
          first
            | rw [if_pos (fun q => hv2 q.1)]
            | rw [if_pos (fun q => hv10 q.2)]
            | rw [if_neg (fun q => q ⟨hv2, hv10⟩), if_pos (by omega)]
            | rw [if_neg (fun q => q ⟨hv2, hv10⟩), if_neg (by omega), if_pos (Decidable.not_not.mp hv37)]
        · unfold s_say
          first
            | rw [if_pos (fun q => hv2 q.1)]
            | rw [if_pos (fun q => hv10 q.2)]
            | rw [if_neg (fun q => q ⟨hv2, hv10⟩), if_pos (by omega)]
            | rw [if_neg (fun q => q ⟨hv2, hv10⟩), if_neg (by omega), if_pos (Decidable.not_not.mp hv37)]
      · refine wk_iload_n (i := 3) (q := 23) dX6_say_22 rfl rfl rfl ?_
        refine wk_bipush (q := 25) dX6_say_23 rfl (by decide +kernel) ?_
        refine wk_icmp_le (t := 31) (q := 28) dX6_say_25 rfl rfl (by omega) (by omega) (fun hc25 => ?_) (fun hc25 => ?_)
        · refine wk_aload_n (i := 0) (q := 32) dX6_say_31 rfl rfl rfl ?_
          refine wk_getR (fi := 1) (q := 35) dX6_say_32 rfl fl_X6_20 rfl rfl hX.ob hX.r1 ?_
          refine wk_iload_n (i := 1) (q := 36) dX6_say_35 rfl rfl rfl ?_
          refine wk_iload_n (i := 2) (q := 37) dX6_say_36 rfl rfl rfl ?_
          refine wk_cP2 (q := 40) dX6_say_37 rfl vl_X6_128 ⟨_, _, rfl⟩ hX.o1.ob (ct_X5_mayHave hX.o1 (by omega) (by omega) (by rw [(eg g hv2.1 hv2.2).2.2.2 d hv10.1 hv10.2]; have := ((hok.tab (by omega)).1.2.2.2.2.2 g hv2.1 hv2.2).2.2.2.2.2.2 d hv10.1 hv10.2; omega)) (qRo_m ok_X5_mayHave (by decide) (Nat.le_refl _) (Nat.le_refl _)) (Nat.le_of_ble_eq_true rfl) (fun v37 hv37 => ?_)
          rcases hv37 with ⟨rfl, hv37⟩ | ⟨rfl, hv37⟩
          · rw [(eg g hv2.1 hv2.2).2.2.2 d hv10.1 hv10.2] at hv37
            refine wk_if_ne (t := 46) (q := 43) dX6_say_40 rfl rfl (by omega) (fun _ => ?_) (fun hq => absurd hq (by decide))
            refine wk_aload_n (i := 0) (q := 47) dX6_say_46 rfl rfl rfl ?_
            refine wk_getR (fi := 3) (q := 50) dX6_say_47 rfl fl_X6_30 rfl rfl hX.ob hX.r3 ?_
            refine wk_getR (fi := 4) (q := 53) dX6_say_50 rfl fl_X6_121 rfl rfl hX.t3.1.ob hX.t3.1.r4 ?_
            refine wk_iload_n (i := 1) (q := 54) dX6_say_53 rfl rfl rfl ?_
            refine wk_aald2 (q := 55) dX6_say_54 rfl hX.t3.1.s4 (by omega) (hX.t3.1.w4 (by omega)) ?_
            refine wk_iload_n (i := 2) (q := 56) dX6_say_55 rfl rfl rfl ?_
            refine wk_iald (q := 57) dX6_say_56 rfl (hX.t3.1.v4 (by omega)) (by omega) ?_
            refine wk_istore (i := 4) (lo' := [(0, _), (1, _), (2, _), (3, _), (4, _)]) (q := 59) dX6_say_57 rfl (by decide) rfl ?_
            refine wk_aload_n (i := 0) (q := 60) dX6_say_59 rfl rfl rfl ?_
            refine wk_getR (fi := 3) (q := 63) dX6_say_60 rfl fl_X6_30 rfl rfl hX.ob hX.r3 ?_
            refine wk_getR (fi := 4) (q := 66) dX6_say_63 rfl fl_X6_121 rfl rfl hX.t3.1.ob hX.t3.1.r4 ?_
            refine wk_iload_n (i := 1) (q := 67) dX6_say_66 rfl rfl rfl ?_
            refine wk_aald2 (q := 68) dX6_say_67 rfl hX.t3.1.s4 (by omega) (hX.t3.1.w4 (by omega)) ?_
            refine wk_iload_n (i := 2) (q := 69) dX6_say_68 rfl rfl rfl ?_
            refine wk_iload_n (i := 3) (q := 70) dX6_say_69 rfl rfl rfl ?_
            refine wk_iast (q := 71) dX6_say_70 rfl (hX.t3.1.v4 (by omega)) (by omega) ?_
            refine wk_aload_n (i := 0) (q := 72) dX6_say_71 rfl rfl rfl ?_
            refine wk_cV0 (q := 75) dX6_say_72 rfl vl_X6_85 ⟨_, _, rfl⟩ hX.ob (ct_X6_unsettle hX) (qRo_m ok_X6_unsettle (by decide) (Nat.le_refl _) (Nat.le_refl _)) (Nat.le_of_ble_eq_true rfl) (fun I72 L72 R72 hv72 => ?_)
            obtain ⟨rfl, rfl, rfl⟩ := hv72
            refine wk_iload (i := 4) (q := 77) dX6_say_75 rfl rfl ?_
            refine wk_iret dX6_say_77 rfl ⟨Nat.le_refl _, Nat.le_refl _⟩ rfl ?_
            obtain ⟨t1, t2, t3, t4, t5, t6, t7⟩ := hh.full (by omega)
            have hr : I (x + 30 + 19 + g.toNat) d = r_say V g d v := by
              unfold r_say
              rw [if_neg (fun q => q ⟨hv2, hv10⟩), if_neg (by omega), if_neg hv37]
              exact (t5.2.2.2.2 g hv2.1 hv2.2).2 d hv10.1 hv10.2
            have hs : s_say V g d v = V.setC (V.C.setSa (u2 V.C.sa g d v)) := by
              unfold s_say
              rw [if_neg (fun q => q ⟨hv2, hv10⟩), if_neg (by omega), if_neg hv37]
            have hok2 := CC.ok_sa t2.1 (g := g) (d := d) (v := v) (by omega) hv37
            refine ⟨_, _, _, _, rfl, rfl, hr, CI0.ci (o := o) (d := dr) (u1 := u1') (u2 := u2') (u3 := u3') ?_, ?_, frO.rf⟩
            · rw [hs]
              refine hh.nowW ⟨rfl, rfl, rfl, rfl⟩ ⟨rfl, rfl, rfl, rfl⟩ ⟨hok.1, Or.inr ⟨t1, ⟨hok2, t2.2⟩, t3⟩⟩ (by omega) (fun c i q1 q2 q3 => ?_) ⟨⟨?_, ?_, ?_, fun s s0 s1 => ?_, fun a a0 a1 => ⟨?_, fun b b0 b1 => ?_⟩⟩, ?_, fun a a0 a1 => ?_⟩ (Or.inl ?_) (Or.inl (up_eq _ _ _ _))
              · by_cases c1 : c = x + 154
                · subst c1
                  rw [up_ni _ _ (by omega), up_na _ _ _ _ (by omega), up_na _ _ _ _ (by omega)]
                · rw [up_na _ _ _ _ c1]
                  by_cases c2 : c = x + 150
                  · subst c2
                    rw [up_ni _ _ (by omega), up_na _ _ _ _ (by omega)]
                  · rw [up_na _ _ _ _ c2, up_na _ _ _ _ (by omega)]
              · rw [up_na _ _ _ _ (by omega), up_na _ _ _ _ (by omega), up_na _ _ _ _ (by omega)]
                exact t5.1
              · rw [up_na _ _ _ _ (by omega), up_na _ _ _ _ (by omega), up_na _ _ _ _ (by omega)]
                exact t5.2.1
              · rw [up_na _ _ _ _ (by omega), up_na _ _ _ _ (by omega), up_na _ _ _ _ (by omega)]
                exact t5.2.2.1
              · rw [up_na _ _ _ _ (by omega), up_na _ _ _ _ (by omega), up_na _ _ _ _ (by omega)]
                exact t5.2.2.2.1 s s0 s1
              · rw [up_na _ _ _ _ (by omega), up_na _ _ _ _ (by omega), up_na _ _ _ _ (by omega)]
                exact (t5.2.2.2.2 a a0 a1).1
              · have a1' : a < V.T.ng := a1
                have b1' : b < V.T.nd := b1
                rw [up_na _ _ _ _ (by omega), up_na _ _ _ _ (by omega)]
                show _ = u2 V.C.sa g d v a b
                by_cases hq : a = g ∧ b = d
                · rw [hq.1, hq.2, up_eq, u2_eq]
                · rw [u2_ne (by omega)]
                  by_cases ha : a = g
                  · rw [ha, up_ni _ _ (by omega)]
                    exact (t5.2.2.2.2 g hv2.1 hv2.2).2 b b0 b1
                  · rw [up_na _ _ _ _ (by omega)]
                    exact (t5.2.2.2.2 a a0 a1).2 b b0 b1
              · rw [up_na _ _ _ _ (by omega), up_na _ _ _ _ (by omega), up_na _ _ _ _ (by omega)]
                exact t6
              · rw [up_na _ _ _ _ (by omega), up_na _ _ _ _ (by omega), up_na _ _ _ _ (by omega)]
                exact t7 a a0 a1
              · rw [up_na _ _ _ _ (by omega), up_eq]
            · intro c i q
              rw [up_na _ _ _ _ (by omega), up_na _ _ _ _ (by omega), up_na _ _ _ _ (by omega)]
          · rw [(eg g hv2.1 hv2.2).2.2.2 d hv10.1 hv10.2] at hv37
            refine wk_if_ne (t := 46) (q := 43) dX6_say_40 rfl rfl (by omega) (fun hq => absurd hq (by decide)) (fun _ => ?_)
            refine wk_bipush (q := 45) dX6_say_43 rfl (by decide +kernel) ?_
            refine wk_iret dX6_say_45 rfl ⟨Nat.le_refl _, Nat.le_refl _⟩ rfl ?_
            refine same _ ?_ ?_
            · unfold r_say
              first
                | rw [if_pos (fun q => hv2 q.1)]
                | rw [if_pos (fun q => hv10 q.2)]
                | rw [if_neg (fun q => q ⟨hv2, hv10⟩), if_pos (by omega)]
                | rw [if_neg (fun q => q ⟨hv2, hv10⟩), if_neg (by omega), if_pos (Decidable.not_not.mp hv37)]
            · unfold s_say
              first
                | rw [if_pos (fun q => hv2 q.1)]
                | rw [if_pos (fun q => hv10 q.2)]
                | rw [if_neg (fun q => q ⟨hv2, hv10⟩), if_pos (by omega)]
                | rw [if_neg (fun q => q ⟨hv2, hv10⟩), if_neg (by omega), if_pos (Decidable.not_not.mp hv37)]
        · refine wk_bipush (q := 30) dX6_say_28 rfl (by decide +kernel) ?_
          refine wk_iret dX6_say_30 rfl ⟨Nat.le_refl _, Nat.le_refl _⟩ rfl ?_
          refine same _ ?_ ?_
          · unfold r_say
            first
              | rw [if_pos (fun q => hv2 q.1)]
              | rw [if_pos (fun q => hv10 q.2)]
              | rw [if_neg (fun q => q ⟨hv2, hv10⟩), if_pos (by omega)]
              | rw [if_neg (fun q => q ⟨hv2, hv10⟩), if_neg (by omega), if_pos (Decidable.not_not.mp hv37)]
          · unfold s_say
            first
              | rw [if_pos (fun q => hv2 q.1)]
              | rw [if_pos (fun q => hv10 q.2)]
              | rw [if_neg (fun q => q ⟨hv2, hv10⟩), if_pos (by omega)]
              | rw [if_neg (fun q => q ⟨hv2, hv10⟩), if_neg (by omega), if_pos (Decidable.not_not.mp hv37)]
    · rw [e6] at hv10
      refine wk_if_ne (t := 18) (q := 16) dX6_say_13 rfl rfl (by omega) (fun hq => absurd hq (by decide)) (fun _ => ?_)
      refine wk_iconst (q := 17) dX6_say_16 rfl ?_
      refine wk_iret dX6_say_17 rfl ⟨Nat.le_refl _, Nat.le_refl _⟩ rfl ?_
      refine same _ ?_ ?_
      · unfold r_say
        first
          | rw [if_pos (fun q => hv2 q.1)]
          | rw [if_pos (fun q => hv10 q.2)]
          | rw [if_neg (fun q => q ⟨hv2, hv10⟩), if_pos (by omega)]
          | rw [if_neg (fun q => q ⟨hv2, hv10⟩), if_neg (by omega), if_pos (Decidable.not_not.mp hv37)]
      · unfold s_say
        first
          | rw [if_pos (fun q => hv2 q.1)]
          | rw [if_pos (fun q => hv10 q.2)]
          | rw [if_neg (fun q => q ⟨hv2, hv10⟩), if_pos (by omega)]
          | rw [if_neg (fun q => q ⟨hv2, hv10⟩), if_neg (by omega), if_pos (Decidable.not_not.mp hv37)]
  · rw [e7] at hv2
    refine wk_if_eq (t := 16) (q := 8) dX6_say_5 rfl rfl (by omega) (fun _ => ?_) (fun hq => absurd hq (by decide))
    refine wk_iconst (q := 17) dX6_say_16 rfl ?_
    refine wk_iret dX6_say_17 rfl ⟨Nat.le_refl _, Nat.le_refl _⟩ rfl ?_
    refine same _ ?_ ?_
    · unfold r_say
      first
        | rw [if_pos (fun q => hv2 q.1)]
        | rw [if_pos (fun q => hv10 q.2)]
        | rw [if_neg (fun q => q ⟨hv2, hv10⟩), if_pos (by omega)]
        | rw [if_neg (fun q => q ⟨hv2, hv10⟩), if_neg (by omega), if_pos (Decidable.not_not.mp hv37)]
    · unfold s_say
      first
        | rw [if_pos (fun q => hv2 q.1)]
        | rw [if_pos (fun q => hv10 q.2)]
        | rw [if_neg (fun q => q ⟨hv2, hv10⟩), if_pos (by omega)]
        | rw [if_neg (fun q => q ⟨hv2, hv10⟩), if_neg (by omega), if_pos (Decidable.not_not.mp hv37)]
end CLS2
