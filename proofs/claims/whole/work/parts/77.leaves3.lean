/-! the class's leaves (2) -/
def levW (V : VV) (g : Nat) (k : Nat) : Int := levS V g + (if lev V g k = 1 then p2 g else 0)
theorem levW_in {V : VV} {g : Nat} (hg : g < 7) (k : Nat) : 0 ≤ levW V g k ∧ levW V g k < 128 := by
  have h1 := levS_in (V := V) g (by omega)
  have h2 := p2_in (g := (g : Int)) (by omega)
  unfold levW
  split <;> omega
theorem levW_hit {V : VV} {g k : Nat} (hg : g < 7) (h1 : V.T.kd g ≠ k) (h2 : levD V g k = 1) : zOr (levW V g k) (p2 g) = levW V g (k + 1) := by
  have a1 := levS_in (V := V) g (by omega)
  have e : lev V g (k + 1) = 1 := by
    unfold lev
    rw [if_pos ⟨h1, h2⟩]
  unfold levW
  rw [e, if_pos rfl]
  by_cases hq : lev V g k = 1
  · rw [if_pos hq]
    exact zOr_p2' (by omega) a1.1 a1.2
  · rw [if_neg hq, Int.add_zero]
    exact zOr_p2 (by omega) a1.1 a1.2
theorem levW_no {V : VV} {g k : Nat} (h : ¬ (V.T.kd g ≠ k ∧ levD V g k = 1)) : levW V g (k + 1) = levW V g k := by
  have e : lev V g (k + 1) = lev V g k := by
    show (if V.T.kd g ≠ k ∧ levD V g k = 1 then 1 else lev V g k) = lev V g k
    rw [if_neg h]
  unfold levW
  rw [e]
theorem ring_in {T : TT} (hT : T.ok) {C : CC} (hC : C.ok T) (hall : ∀ g, 0 ≤ g → g < T.ng → ∃ s, 0 ≤ s ∧ s < C.se ∧ tgt C s = g) {la : Int → Int} : 1 ≤ ringL T C la ∧ ringL T C la ≤ 129 ∧ ∀ g, 0 ≤ g → g < T.ng → 0 ≤ gladS T C la (ringL T C la).toNat g ∧ gladS T C la (ringL T C la).toNat g ≤ 200000 := by
  have hE := Er_ok hT hC hall (la := la)
  have hr : ringL T C la = (Er T C la : Int) - tailE T C la := rfl
  refine ⟨by omega, by omega, fun g g0 g1 => ?_⟩
  have hG := gladS_in hT hC (la := la) g0 g1 (ringL T C la).toNat
  omega
section LEAVES3
variable {l : Launch} {E : qEv} {n : Nat} {sh : qSh} {I L : qI} {R : qR}
theorem oc_leaves {x : Nat} {V : VV} (h : CI E.2.2 n sh x I L R V) :
    Ct l E 7 mX6_leaves [.ref x] (n, sh, I, L, R) 0 0 (qZ n sh (cpZ E.2.2 n sh x I R (r_leaves V) V)) := by
  obtain ⟨o, dr, w1, w2, w3, hh⟩ := id h
  obtain ⟨hX, hod, hok, h10, h11, h12, hS, hT, hB, hC⟩ := id hh
  have hng := hok.ng
  have e7 := hT.1.2.1
  obtain ⟨A, hA⟩ : ∃ A : Int → Int, A = gladS V.T V.C V.la (ringL V.T V.C V.la).toNat := ⟨_, rfl⟩
  obtain ⟨r, hr⟩ : ∃ r, r = ringL V.T V.C V.la := ⟨_, rfl⟩
  have outer : 0 < V.T.ng → ∀ g : Nat, g ≤ V.T.ng.toNat → ∀ (I1 : qI) (R1 : qR), CI0 E.2.2 n sh x I1 L R1 V o dr w1 o w3 → frO I I1 x 167 → frO R R1 x 167 → I1 (x + 144) 3 = r → (∀ g, 0 ≤ g → g < V.T.ng → I1 (x + 144 + 1) g = A g) → Wk l E (qmo E 7 n 0 0 (qZ n sh (cpZ E.2.2 n sh x I R (r_leaves V) V))) mX6_leaves 0 0 18
      [(0, .ref x), (1, .int (zI (levS V g))), (2, .int (zI (g : Int)))] [] (n, sh, I1, L, R1) := by
    intro hp
    obtain ⟨t1, t2, t3⟩ := hok.tab hp
    have rC := ring_in t1 t2.1 (fun g g0 g1 => t2.all g0 g1) (la := V.la)
    rw [← hr] at rC
    refine up_ind V.T.ng.toNat ?_ ?_
    · intro I1 R1 hh f1 f2 f3 f4
      have hX := hh.1
      have e7 := hh.2.2.2.2.2.2.2.1.1.2.1
      refine wk_iload_n (i := 2) (q := 19) dX6_leaves_18 rfl rfl rfl ?_
      refine wk_aload_n (i := 0) (q := 20) dX6_leaves_19 rfl rfl rfl ?_
      refine wk_getR (fi := 1) (q := 23) dX6_leaves_20 rfl fl_X6_20 rfl rfl hX.ob hX.r1 ?_
      refine wk_getI (fi := 7) (q := 26) dX6_leaves_23 rfl fl_X6_88 rfl rfl hX.o1.ob ?_
      refine wk_icmp_ge (t := 111) (q := 29) dX6_leaves_26 rfl rfl (by omega) (by omega) (fun hc26 => ?_) (fun hc26 => ?_)
      · refine wk_iload_n (i := 1) (q := 112) dX6_leaves_111 rfl rfl rfl ?_
        refine wk_iret dX6_leaves_112 rfl ⟨Nat.le_refl _, Nat.le_refl _⟩ rfl ?_
        refine ⟨_, _, _, _, rfl, rfl, ?_, hh.ci, f1, f2⟩
        unfold r_leaves
        rw [if_pos hp]
      · omega
    · intro g hg ih I0 R0 hh0 p1 p2' p3 p4
      have hkd := t1.2.2.2.2.2 g (by omega) (by omega)
      have inner : ∀ k : Nat, k ≤ 3 → ∀ (I1 : qI) (R1 : qR), CI0 E.2.2 n sh x I1 L R1 V o dr w1 o w3 → frO I I1 x 167 → frO R R1 x 167 → I1 (x + 144) 3 = r → (∀ g, 0 ≤ g → g < V.T.ng → I1 (x + 144 + 1) g = A g) → Wk l E (qmo E 7 n 0 0 (qZ n sh (cpZ E.2.2 n sh x I R (r_leaves V) V))) mX6_leaves 0 0 31
          [(0, .ref x), (1, .int (zI (levW V g k))), (2, .int (zI (g : Int))), (3, .int (zI (k : Int)))] [] (n, sh, I1, L, R1) := by
        refine up_ind 3 ?_ ?_
        · intro I1 R1 hh f1 f2 f3 f4
          have hX := hh.1
          have hW : levW V g 3 = levS V (g + 1) := rfl
          refine wk_iload_n (i := 3) (q := 32) dX6_leaves_31 rfl rfl rfl ?_
          refine wk_iconst (q := 33) dX6_leaves_32 rfl ?_
          refine wk_icmp_gt (t := 105) (q := 36) dX6_leaves_33 rfl rfl (by omega) (by omega) (fun hc33 => ?_) (fun hc33 => ?_)
          · refine wk_iinc (lo' := [(0, _), (1, _), (2, _), (3, _)]) (q := 108) dX6_leaves_105 rfl rfl (by decide) rfl ?_
            refine wk_goto (t := 18) dX6_leaves_108 rfl ?_
            refine wk_del (i := 3) (lo' := [(0, _), (1, _), (2, _)]) rfl ?_
            rw [hW]
            exact ih I1 R1 hh f1 f2 f3 f4
          · omega
        · intro k hk ihk I1 R1 hh f1 f2 f3 f4
          have hX := hh.1
          have hot := hh.otx
          have ekd : I1 (o + 3) g = V.T.kd g := (hh.2.2.2.2.2.2.2.1.1.2.2.2 g (by omega) (by omega)).1
          have wi := levW_in (V := V) (g := g) (by omega) k
          have okK := kdC_ok t2.1 (V := V) (g := (g : Int)) (k := (k : Int)) (by omega)
          have alK := kdC_all t2 (g : Int) (k : Int)
          have rK := ring_in t1 okK alK (la := V.la)
          obtain ⟨B, hBB⟩ : ∃ B, B = gladS V.T (kdC V g k) V.la (ringL V.T (kdC V g k) V.la).toNat g := ⟨_, rfl⟩
          obtain ⟨s, hs⟩ : ∃ s, s = ringL V.T (kdC V g k) V.la := ⟨_, rfl⟩
          have rB := rK.2.2 g (by omega) (by omega)
          rw [← hBB] at rB
          rw [← hs] at rK
          have rA := rC.2.2 g (by omega) (by omega)
          rw [hr, ← hA] at rA
          have hD : levD V g k = if A g * s < B * r then 1 else 0 := by
            unfold levD
            rw [hA, hBB, hs, hr]
          refine wk_iload_n (i := 3) (q := 32) dX6_leaves_31 rfl rfl rfl ?_
          refine wk_iconst (q := 33) dX6_leaves_32 rfl ?_
          refine wk_icmp_gt (t := 105) (q := 36) dX6_leaves_33 rfl rfl (by omega) (by omega) (fun hc33 => ?_) (fun hc33 => ?_)
          · omega
          · refine wk_iload_n (i := 3) (q := 37) dX6_leaves_36 rfl rfl rfl ?_
            refine wk_aload_n (i := 0) (q := 38) dX6_leaves_37 rfl rfl rfl ?_
            refine wk_getR (fi := 1) (q := 41) dX6_leaves_38 rfl fl_X6_20 rfl rfl hX.ob hX.r1 ?_
            refine wk_getR (fi := 2) (q := 44) dX6_leaves_41 rfl fl_X6_105 rfl rfl hX.o1.ob hX.o1.r2 ?_
            refine wk_iload_n (i := 2) (q := 45) dX6_leaves_44 rfl rfl rfl ?_
            refine wk_iald (q := 46) dX6_leaves_45 rfl hX.o1.s2 (by omega) ?_
            rw [ekd]
            refine wk_icmp_eq (t := 99) (q := 49) dX6_leaves_46 rfl rfl (by omega) (by omega) (fun hc46 => ?_) (fun hc46 => ?_)
            · refine wk_iinc (lo' := [(0, _), (1, _), (2, _), (3, _)]) (q := 102) dX6_leaves_99 rfl rfl (by decide) rfl ?_
              refine wk_goto (t := 31) dX6_leaves_102 rfl ?_
              first
              | exact ihk _ _ h4 kf kr k3 k4
              | (have ih' := ihk I1 R1 hh f1 f2 f3 f4
                 rw [levW_no (fun q => q.1 hc46.symm)] at ih'
                 exact ih')
            · refine wk_aload_n (i := 0) (q := 50) dX6_leaves_49 rfl rfl rfl ?_
              refine wk_getR (fi := 4) (q := 53) dX6_leaves_50 rfl fl_X6_34 rfl rfl hX.ob hX.r4 ?_
              refine wk_aload_n (i := 0) (q := 54) dX6_leaves_53 rfl rfl rfl ?_
              refine wk_getR (fi := 3) (q := 57) dX6_leaves_54 rfl fl_X6_30 rfl rfl hX.ob hX.r3 ?_
              refine wk_cV1 (q := 60) dX6_leaves_57 rfl vl_X6_198 ⟨_, _, rfl⟩ hX.t4.1.ob (ct_tri hh hp) (qRo_m ok_X4_become (by decide) (Nat.le_refl _) (Nat.le_refl _)) (Nat.le_of_ble_eq_true rfl) (fun I57 L57 R57 hv57 => ?_)
              obtain ⟨rfl, rfl, h2, j1, j2, j3, j4⟩ := hv57
              have hX := h2.1
              refine wk_aload_n (i := 0) (q := 61) dX6_leaves_60 rfl rfl rfl ?_
              refine wk_getR (fi := 4) (q := 64) dX6_leaves_61 rfl fl_X6_34 rfl rfl hX.ob hX.r4 ?_
              refine wk_getR (fi := 2) (q := 67) dX6_leaves_64 rfl fl_X6_218 rfl rfl hX.t4.1.ob hX.t4.1.r2 ?_
              refine wk_iload_n (i := 2) (q := 68) dX6_leaves_67 rfl rfl rfl ?_
              refine wk_iload_n (i := 3) (q := 69) dX6_leaves_68 rfl rfl rfl ?_
              refine wk_iast (q := 70) dX6_leaves_69 rfl hX.t4.1.s2 (by omega) ?_
              refine wk_aload_n (i := 0) (q := 71) dX6_leaves_70 rfl rfl rfl ?_
              refine wk_getR (fi := 7) (q := 74) dX6_leaves_71 rfl fl_X6_47 rfl rfl hX.ob hX.r7 ?_
              refine wk_aload_n (i := 0) (q := 75) dX6_leaves_74 rfl rfl rfl ?_
              refine wk_getR (fi := 4) (q := 78) dX6_leaves_75 rfl fl_X6_34 rfl rfl hX.ob hX.r4 ?_
              skip
              have fy : ∀ b i, ¬ (x + 68 ≤ b ∧ b < x + 106) → up I57 (x + 68 + 16) (g : Int) (k : Int) b i = I57 b i := fun b i q => up_na _ _ _ _ (by omega)
              have h3 := h2.scr (I' := up I57 (x + 68 + 16) (g : Int) (k : Int)) h2.1 ⟨rfl, rfl, rfl, rfl, rfl, rfl, rfl⟩ (fun b i q1 q2 => fy b i (by omega)) (by rw [fy _ _ (by omega)]; exact h2.2.2.2.1) (by rw [fy _ _ (by omega)]; exact h2.2.2.2.2.1) (by rw [fy _ _ (by omega)]; exact h2.2.2.2.2.2.1)
              have sC : shC (up I57 (x + 68 + 16) (g : Int) (k : Int)) (x + 68) V.T (kdC V g k) := by
                obtain ⟨b1, b2, b3, b4, b5⟩ := j2
                refine ⟨by rw [up_na _ _ _ _ (by omega)]; exact b1, by rw [up_na _ _ _ _ (by omega)]; exact b2, by rw [up_na _ _ _ _ (by omega)]; exact b3, fun s s0 s1 => by rw [up_na _ _ _ _ (by omega)]; exact b4 s s0 s1, fun a a0 a1 => ⟨?_, fun b b0 b1' => by rw [up_na _ _ _ _ (by omega)]; exact (b5 a a0 a1).2 b b0 b1'⟩⟩
                show _ = u1 V.C.kd g k a
                by_cases hq : a = g
                · rw [hq, up_eq, u1_eq]
                · rw [up_ni _ _ hq, u1_ne hq]
                  exact (b5 a a0 a1).1
              refine wk_cV1 (q := 81) dX6_leaves_78 rfl vl_X6_219 ⟨_, _, rfl⟩ hX.o7.ob (ct_X1_walk (la := V.la) hX.o7 hX.t4 (by omega) (by omega) t1 okK alK t2.2.2.2.1 h3.2.2.2.2.2.2.2.1.1 sC (by rw [up_na _ _ _ _ (by omega)]; exact j3) (fun g' g0 g1 => by rw [up_na _ _ _ _ (by omega)]; exact j4 g' g0 g1) t3) (qRo_m ok_X1_walk (by decide) (Nat.le_refl _) (Nat.le_refl _)) (Nat.le_of_ble_eq_true rfl) (fun I78 L78 R78 hv78 => ?_)
              obtain ⟨rfl, rfl, z1, z2, z3, z4⟩ := hv78
              rw [← hs] at z3
              have z5 : I78 (x + 147 + 1) g = B := (z4 g (by omega) (by omega)).trans hBB.symm
              have fz : ∀ b i, ¬ (x + 68 ≤ b ∧ b < x + 106) → ¬ (x + 147 ≤ b ∧ b < x + 150) → I78 b i = I1 b i := fun b i q1 q2 => by rw [z1 b i (by omega) (by omega), fy b i q1]; exact j1 b i q1
              have h4 := h3.scr (I' := I78) h3.1 ⟨rfl, rfl, rfl, rfl, rfl, rfl, rfl⟩ (fun b i q1 q2 => z1 b i (by omega) (by omega)) (by rw [z1 _ _ (by omega) (by omega)]; exact h3.2.2.2.1) (by rw [z1 _ _ (by omega) (by omega)]; exact h3.2.2.2.2.1) (by rw [z1 _ _ (by omega) (by omega)]; exact h3.2.2.2.2.2.1)
              have hX := h4.1
              have k3 : I78 (x + 144) 3 = r := by rw [fz _ _ (by omega) (by omega)]; exact f3
              have k4 : ∀ g, 0 ≤ g → g < V.T.ng → I78 (x + 144 + 1) g = A g := fun g' g0 g1 => by rw [fz _ _ (by omega) (by omega)]; exact f4 g' g0 g1
              have kf : frO I I78 x 167 := fun b i q => by rw [fz b i (by omega) (by omega)]; exact f1 b i q
              have kr : frO R (up R1 (x + 68) 0 o) x 167 := fun b i q => by rw [up_na _ _ _ _ (by omega)]; exact f2 b i q
              refine wk_iload_n (i := 1) (q := 82) dX6_leaves_81 rfl rfl rfl ?_
              refine wk_aload_n (i := 0) (q := 83) dX6_leaves_82 rfl rfl rfl ?_
              refine wk_iload_n (i := 2) (q := 84) dX6_leaves_83 rfl rfl rfl ?_
              refine wk_cP1 (q := 87) dX6_leaves_84 rfl vl_X6_222 ⟨_, _, rfl⟩ hX.ob (ct_X6_isGladderOtherwise hX (by omega) (k4 g (by omega) (by omega)) z5 k3 z3 rA rB (by omega) (by omega)) (qRo_m ok_X6_isGladderOtherwise (by decide) (Nat.le_refl _) (Nat.le_refl _)) (Nat.le_of_ble_eq_true rfl) (fun v84 hv84 => ?_)
              rcases hv84 with ⟨rfl, hv84⟩ | ⟨rfl, hv84⟩
              · refine wk_if_eq (t := 96) (q := 90) dX6_leaves_87 rfl rfl (by omega) (fun hq => absurd hq (by decide)) (fun _ => ?_)
                refine wk_iconst (q := 91) dX6_leaves_90 rfl ?_
                refine wk_iload_n (i := 2) (q := 92) dX6_leaves_91 rfl rfl rfl ?_
                refine wk_ishl (q := 93) dX6_leaves_92 rfl ?_
                refine wk_goto (t := 97) dX6_leaves_93 rfl ?_
                first
                | rw [zShl_p2 (by omega)]
                | skip
                refine wk_ior (q := 98) dX6_leaves_97 rfl ?_
                first
                | rw [levW_hit (by omega) (fun q => hc46 q.symm) (by rw [hD, if_pos hv84])]
                | (rw [zOr_0 (by omega) (by omega)]
                   have nh : levW V g (k + 1) = levW V g k := levW_no (fun q => by rw [hD, if_neg hv84] at q; exact absurd q.2 (by decide))
                   rw [← nh])
                refine wk_istore_n (i := 1) (lo' := [(0, _), (1, _), (2, _), (3, _)]) (q := 99) dX6_leaves_98 rfl rfl (by decide) rfl ?_
                refine wk_iinc (lo' := [(0, _), (1, _), (2, _), (3, _)]) (q := 102) dX6_leaves_99 rfl rfl (by decide) rfl ?_
                refine wk_goto (t := 31) dX6_leaves_102 rfl ?_
                first
                | exact ihk _ _ h4 kf kr k3 k4
                | (have ih' := ihk I1 R1 hh f1 f2 f3 f4
                   rw [levW_no (fun q => q.1 hc46.symm)] at ih'
                   exact ih')
              · refine wk_if_eq (t := 96) (q := 90) dX6_leaves_87 rfl rfl (by omega) (fun _ => ?_) (fun hq => absurd hq (by decide))
                refine wk_iconst (q := 97) dX6_leaves_96 rfl ?_
                first
                | rw [zShl_p2 (by omega)]
                | skip
                refine wk_ior (q := 98) dX6_leaves_97 rfl ?_
                first
                | rw [levW_hit (by omega) (fun q => hc46 q.symm) (by rw [hD, if_pos hv84])]
                | (rw [zOr_0 (by omega) (by omega)]
                   have nh : levW V g (k + 1) = levW V g k := levW_no (fun q => by rw [hD, if_neg hv84] at q; exact absurd q.2 (by decide))
                   rw [← nh])
                refine wk_istore_n (i := 1) (lo' := [(0, _), (1, _), (2, _), (3, _)]) (q := 99) dX6_leaves_98 rfl rfl (by decide) rfl ?_
                refine wk_iinc (lo' := [(0, _), (1, _), (2, _), (3, _)]) (q := 102) dX6_leaves_99 rfl rfl (by decide) rfl ?_
                refine wk_goto (t := 31) dX6_leaves_102 rfl ?_
                first
                | exact ihk _ _ h4 kf kr k3 k4
                | (have ih' := ihk I1 R1 hh f1 f2 f3 f4
                   rw [levW_no (fun q => q.1 hc46.symm)] at ih'
                   exact ih')
      have hX := hh0.1
      have e7 := hh0.2.2.2.2.2.2.2.1.1.2.1
      have i0 := inner 0 (by omega) I0 R0 hh0 p1 p2' p3 p4
      have w0 : levW V g 0 = levS V g := by
        unfold levW
        show levS V g + (if (0 : Int) = 1 then p2 g else 0) = levS V g
        rw [if_neg (by decide), Int.add_zero]
      rw [w0] at i0
      refine wk_iload_n (i := 2) (q := 19) dX6_leaves_18 rfl rfl rfl ?_
      refine wk_aload_n (i := 0) (q := 20) dX6_leaves_19 rfl rfl rfl ?_
      refine wk_getR (fi := 1) (q := 23) dX6_leaves_20 rfl fl_X6_20 rfl rfl hX.ob hX.r1 ?_
      refine wk_getI (fi := 7) (q := 26) dX6_leaves_23 rfl fl_X6_88 rfl rfl hX.o1.ob ?_
      refine wk_icmp_ge (t := 111) (q := 29) dX6_leaves_26 rfl rfl (by omega) (by omega) (fun hc26 => ?_) (fun hc26 => ?_)
      · omega
      · refine wk_iconst (q := 30) dX6_leaves_29 rfl ?_
        refine wk_istore_n (i := 3) (lo' := [(0, _), (1, _), (2, _), (3, _)]) (q := 31) dX6_leaves_30 rfl rfl (by decide) rfl ?_
        exact i0
  refine Ct.of (lo := [(0, _)]) ok_X6_leaves (Nat.le_of_ble_eq_true rfl) rfl ?_
  refine wk_aload_n (i := 0) (q := 1) dX6_leaves_0 rfl rfl rfl ?_
  refine wk_cP0 (q := 4) dX6_leaves_1 rfl vl_X6_138 ⟨_, _, rfl⟩ hX.ob (ct_X6_isTable hX (by omega)) (qRo_m ok_X6_isTable (by decide) (Nat.le_refl _) (Nat.le_refl _)) (Nat.le_of_ble_eq_true rfl) (fun v1 hv1 => ?_)
  rcases hv1 with ⟨rfl, hv1⟩ | ⟨rfl, hv1⟩
  · rw [e7] at hv1
    refine wk_if_ne (t := 10) (q := 7) dX6_leaves_4 rfl rfl (by omega) (fun _ => ?_) (fun hq => absurd hq (by decide))
    refine wk_aload_n (i := 0) (q := 11) dX6_leaves_10 rfl rfl rfl ?_
    refine wk_cV0 (q := 14) dX6_leaves_11 rfl vl_X6_208 ⟨_, _, rfl⟩ hX.ob (ct_X6_walkOn hh hv1) (qRo_m ok_X6_walkOn (by decide) (Nat.le_refl _) (Nat.le_refl _)) (Nat.le_of_ble_eq_true rfl) (fun I11 L11 R11 hv11 => ?_)
    obtain ⟨rfl, rfl, h2, f1, f2, f3, f4⟩ := hv11
    rw [← hr] at f3
    refine wk_iconst (q := 15) dX6_leaves_14 rfl ?_
    refine wk_istore_n (i := 1) (lo' := [(0, _), (1, _)]) (q := 16) dX6_leaves_15 rfl rfl (by decide) rfl ?_
    refine wk_iconst (q := 17) dX6_leaves_16 rfl ?_
    refine wk_istore_n (i := 2) (lo' := [(0, _), (1, _), (2, _)]) (q := 18) dX6_leaves_17 rfl rfl (by decide) rfl ?_
    exact outer hv1 0 (Nat.zero_le _) _ _ h2 f1 (fun b i q => up_na _ _ _ _ (by omega)) f3 (fun g g0 g1 => by rw [hA]; exact f4 g g0 g1)
  · rw [e7] at hv1
    refine wk_if_ne (t := 10) (q := 7) dX6_leaves_4 rfl rfl (by omega) (fun hq => absurd hq (by decide)) (fun _ => ?_)
    refine wk_bipush (q := 9) dX6_leaves_7 rfl (by decide +kernel) ?_
    refine wk_iret dX6_leaves_9 rfl ⟨Nat.le_refl _, Nat.le_refl _⟩ rfl ?_
    refine cp_same h rfl ?_
    unfold r_leaves
    rw [if_neg hv1]
end LEAVES3
