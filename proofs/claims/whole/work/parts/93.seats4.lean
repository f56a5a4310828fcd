/-! the class's seats -/
def r_seats (V : VV) (aim q : Int) : Int := if ¬ (aim = 0 ∨ aim = 1) then -2 else if q < -1 ∨ V.T.ng ≤ q then -1 else if ¬ 0 < V.T.ng then -3 else if q = -1 then (seatBest V.T V.C aim).1 else (seatBest V.T V.C aim).2.getD q.toNat 0
/-- trial, and what the class keeps of the seats, are written -/
theorem CI0.sea {b n : Nat} {sh : qSh} {x : Nat} {I L I' : qI} {R R' : qR} {V : VV} {o d u1 u2 u3 u2' : Nat} (h : CI0 b n sh x I L R V o d u1 u2 u3) (hR : qRA b n sh R' x o d u1 u2' u3) (hI : ∀ c i, ¬ (x + 68 ≤ c ∧ c < x + 106) → ¬ (x + 154 ≤ c ∧ c < x + 159) → I' c i = I c i) (hC : caS I' x V.T V.C) : CI0 b n sh x I' L R' V o d u1 u2' u3 := by
  have hT2 := h.2.2.2.2.2.2.2.1.2
  have hng := h.2.2.1.ng
  refine h.gen hR rfl h.2.2.1 (fun c i q1 q2 => hI c i (by omega) (by omega)) (by rw [hI _ _ (by omega) (by omega)]; exact h.2.2.2.1) (by rw [hI _ _ (by omega) (by omega)]; exact h.2.2.2.2.1) (by rw [hI _ _ (by omega) (by omega)]; exact h.2.2.2.2.2.1) (h.2.2.2.2.2.2.1.cg ⟨rfl, rfl, rfl, rfl⟩ (fun c i q1 q2 => hI c i (by omega) (by omega))) (fun q => ?_) (fun q => ?_) ?_ hC
  · rcases hT2 with z | z
    · rw [hI _ _ (by omega) (by omega), hI _ _ (by omega) (by omega)]
      exact z.2
    · omega
  · rcases hT2 with z | ⟨z1, z2, z3, z4, z5⟩
    · omega
    · exact ⟨z3.cg hng.2.1 (fun c i q => hI c i (by omega) (by omega)), by rw [hI _ _ (by omega) (by omega)]; exact z4, fun g g0 g1 => by rw [hI _ _ (by omega) (by omega)]; exact z5 g g0 g1⟩
  · have := h.2.2.2.2.2.2.2.2.1
    unfold caB at this ⊢
    rw [hI _ _ (by omega) (by omega)]
    exact this
section SEATS4
variable {l : Launch} {E : qEv} {n : Nat} {sh : qSh} {I L : qI} {R : qR}
theorem oc_seats {x : Nat} {V : VV} {aim q : Int} (h : CI E.2.2 n sh x I L R V) (ha : in32 aim) (hq : in32 q) :
    Ct l E 5 mX6_seats [.ref x, .int (zI aim), .int (zI q)] (n, sh, I, L, R) 0 0 (qZ n sh (cpZ E.2.2 n sh x I R (r_seats V aim q) V)) := by
  obtain ⟨o, dr, w1, w2, w3, hh⟩ := id h
  obtain ⟨hX, hod, hok, h10, h11, h12, hS, hT, hB, hC⟩ := id hh
  have hng := hok.ng
  have e7 := hT.1.2.1
  have kb : I (x + 154) 0 = 0 ∨ (I (x + 154) 0 = 1 ∧ 0 < V.T.ng ∧ ∀ aim : Int, 0 ≤ aim → aim < 2 → I (x + 155) aim = (seatBest V.T V.C aim).1 ∧ ∀ s : Int, 0 ≤ s → s < V.T.ng → I (x + 157 + aim.toNat) s = (seatBest V.T V.C aim).2.getD s.toNat 0) := hC
  have key : ∀ (I1 : qI) (R1 : qR) (w2 : Nat), 0 ≤ aim → aim < 2 → -1 ≤ q → q < V.T.ng → 0 < V.T.ng → CI0 E.2.2 n sh x I1 L R1 V o dr w1 w2 w3 → frO I I1 x 167 → frO R R1 x 167 → (I1 (x + 155) aim = (seatBest V.T V.C aim).1 ∧ ∀ s : Int, 0 ≤ s → s < V.T.ng → I1 (x + 157 + aim.toNat) s = (seatBest V.T V.C aim).2.getD s.toNat 0) → Wk l E (qmo E 5 n 0 0 (qZ n sh (cpZ E.2.2 n sh x I R (r_seats V aim q) V))) mX6_seats 0 0 72 [(0, .ref x), (1, .int (zI aim)), (2, .int (zI q))] [] (n, sh, I1, L, R1) := by
    intro I1 R1 w2 a0 a1 q0 q1 hp hh f1 f2 hb
    have hX := hh.1
    refine wk_iload_n (i := 2) (q := 73) dX6_seats_72 rfl rfl rfl ?_
    refine wk_iconst (q := 74) dX6_seats_73 rfl ?_
    refine wk_icmp_ne (t := 89) (q := 77) dX6_seats_74 rfl rfl (by omega) (by omega) (fun hc74 => ?_) (fun hc74 => ?_)
    · refine wk_aload_n (i := 0) (q := 90) dX6_seats_89 rfl rfl rfl ?_
      refine wk_getR (fi := 9) (q := 93) dX6_seats_90 rfl fl_X6_60 rfl rfl hX.ob hX.r9 ?_
      refine wk_getR (fi := 2) (q := 96) dX6_seats_93 rfl fl_X6_205 rfl rfl hX.o9.ob hX.o9.r2 ?_
      refine wk_iload_n (i := 1) (q := 97) dX6_seats_96 rfl rfl rfl ?_
      refine wk_aald2 (q := 98) dX6_seats_97 rfl hX.o9.s2 (by omega) (hX.o9.w2 (by omega)) ?_
      refine wk_iload_n (i := 2) (q := 99) dX6_seats_98 rfl rfl rfl ?_
      refine wk_iald (q := 100) dX6_seats_99 rfl (hX.o9.v2 (by omega)) (by omega) ?_
      refine wk_iret dX6_seats_100 rfl ⟨Nat.le_refl _, Nat.le_refl _⟩ rfl ?_
      refine ⟨_, _, _, _, rfl, rfl, ?_, hh.ci, f1, f2⟩
      unfold r_seats
      rw [if_neg (by omega), if_neg (by omega), if_neg (by omega)]
      first
        | (rw [if_pos (by omega)]; exact hb.1)
        | (rw [if_neg (by omega)]; exact hb.2 q (by omega) (by omega))
    · refine wk_aload_n (i := 0) (q := 78) dX6_seats_77 rfl rfl rfl ?_
      refine wk_getR (fi := 9) (q := 81) dX6_seats_78 rfl fl_X6_60 rfl rfl hX.ob hX.r9 ?_
      refine wk_getR (fi := 1) (q := 84) dX6_seats_81 rfl fl_X6_202 rfl rfl hX.o9.ob hX.o9.r1 ?_
      refine wk_iload_n (i := 1) (q := 85) dX6_seats_84 rfl rfl rfl ?_
      refine wk_iald (q := 86) dX6_seats_85 rfl hX.o9.s1 (by omega) ?_
      refine wk_goto (t := 100) dX6_seats_86 rfl ?_
      refine wk_iret dX6_seats_100 rfl ⟨Nat.le_refl _, Nat.le_refl _⟩ rfl ?_
      refine ⟨_, _, _, _, rfl, rfl, ?_, hh.ci, f1, f2⟩
      unfold r_seats
      rw [if_neg (by omega), if_neg (by omega), if_neg (by omega)]
      first
        | (rw [if_pos (by omega)]; exact hb.1)
        | (rw [if_neg (by omega)]; exact hb.2 q (by omega) (by omega))
  refine Ct.of (lo := [(0, _), (1, _), (2, _)]) ok_X6_seats (Nat.le_of_ble_eq_true rfl) rfl ?_
  refine wk_iload_n (i := 1) (q := 1) dX6_seats_0 rfl rfl rfl ?_
  refine wk_if_lt (t := 9) (q := 4) dX6_seats_1 rfl rfl (by omega) (fun hc1 => ?_) (fun hc1 => ?_)
  · refine wk_bipush (q := 11) dX6_seats_9 rfl (by decide +kernel) ?_
    refine wk_iret dX6_seats_11 rfl ⟨Nat.le_refl _, Nat.le_refl _⟩ rfl ?_
    refine cp_same h rfl ?_
    unfold r_seats
    first
      | rw [if_pos (by omega)]
      | rw [if_neg (by omega), if_pos (by omega)]
      | rw [if_neg (by omega), if_neg (by omega), if_pos hv31]
  · refine wk_iload_n (i := 1) (q := 5) dX6_seats_4 rfl rfl rfl ?_
    refine wk_iconst (q := 6) dX6_seats_5 rfl ?_
    refine wk_icmp_lt (t := 12) (q := 9) dX6_seats_6 rfl rfl (by omega) (by omega) (fun hc6 => ?_) (fun hc6 => ?_)
    · refine wk_iload_n (i := 2) (q := 13) dX6_seats_12 rfl rfl rfl ?_
      refine wk_iconst (q := 14) dX6_seats_13 rfl ?_
      refine wk_icmp_lt (t := 28) (q := 17) dX6_seats_14 rfl rfl (by omega) (by omega) (fun hc14 => ?_) (fun hc14 => ?_)
      · refine wk_iconst (q := 29) dX6_seats_28 rfl ?_
        refine wk_iret dX6_seats_29 rfl ⟨Nat.le_refl _, Nat.le_refl _⟩ rfl ?_
        refine cp_same h rfl ?_
        unfold r_seats
        first
          | rw [if_pos (by omega)]
          | rw [if_neg (by omega), if_pos (by omega)]
          | rw [if_neg (by omega), if_neg (by omega), if_pos hv31]
      · refine wk_iload_n (i := 2) (q := 18) dX6_seats_17 rfl rfl rfl ?_
        refine wk_aload_n (i := 0) (q := 19) dX6_seats_18 rfl rfl rfl ?_
        refine wk_getR (fi := 1) (q := 22) dX6_seats_19 rfl fl_X6_20 rfl rfl hX.ob hX.r1 ?_
        refine wk_getI (fi := 7) (q := 25) dX6_seats_22 rfl fl_X6_88 rfl rfl hX.o1.ob ?_
        refine wk_icmp_lt (t := 30) (q := 28) dX6_seats_25 rfl rfl (by omega) (by omega) (fun hc25 => ?_) (fun hc25 => ?_)
        · refine wk_aload_n (i := 0) (q := 31) dX6_seats_30 rfl rfl rfl ?_
          refine wk_cP0 (q := 34) dX6_seats_31 rfl vl_X6_138 ⟨_, _, rfl⟩ hX.ob (ct_X6_isTable hX (by omega)) (qRo_m ok_X6_isTable (by decide) (Nat.le_refl _) (Nat.le_refl _)) (Nat.le_of_ble_eq_true rfl) (fun v31 hv31 => ?_)
          rcases hv31 with ⟨rfl, hv31⟩ | ⟨rfl, hv31⟩
          · rw [e7] at hv31
            refine wk_if_ne (t := 40) (q := 37) dX6_seats_34 rfl rfl (by omega) (fun _ => ?_) (fun hq => absurd hq (by decide))
            refine wk_aload_n (i := 0) (q := 41) dX6_seats_40 rfl rfl rfl ?_
            refine wk_getR (fi := 9) (q := 44) dX6_seats_41 rfl fl_X6_60 rfl rfl hX.ob hX.r9 ?_
            refine wk_getZ (fi := 0) (q := 47) dX6_seats_44 rfl fl_X6_197 rfl rfl hX.o9.ob ?_
            refine wk_if_ne (t := 72) (q := 50) dX6_seats_47 rfl rfl (by omega) (fun hc47 => ?_) (fun hc47 => ?_)
            · skip
              first
                | exact key _ _ _ (by omega) (by omega) (by omega) (by omega) (by omega) h3 (fun c i q => (g1 c i (by omega) (by omega)).trans (f1 c i (by omega))) (fun c i q => up_na _ _ _ _ (by omega)) (g3 aim (by omega) (by omega))
                | (rcases kb with z | ⟨z1, z2, z3⟩
                   · omega
                   · exact key _ _ _ (by omega) (by omega) (by omega) (by omega) z2 hh (fun _ _ _ => rfl) (fun _ _ _ => rfl) (z3 aim (by omega) (by omega)))
            · refine wk_aload_n (i := 0) (q := 51) dX6_seats_50 rfl rfl rfl ?_
              refine wk_getR (fi := 4) (q := 54) dX6_seats_51 rfl fl_X6_34 rfl rfl hX.ob hX.r4 ?_
              refine wk_aload_n (i := 0) (q := 55) dX6_seats_54 rfl rfl rfl ?_
              refine wk_getR (fi := 3) (q := 58) dX6_seats_55 rfl fl_X6_30 rfl rfl hX.ob hX.r3 ?_
              refine wk_cV1 (q := 61) dX6_seats_58 rfl vl_X6_198 ⟨_, _, rfl⟩ hX.t4.1.ob (ct_tri hh (by omega)) (qRo_m ok_X4_become (by decide) (Nat.le_refl _) (Nat.le_refl _)) (Nat.le_of_ble_eq_true rfl) (fun I58 L58 R58 hv58 => ?_)
              obtain ⟨rfl, rfl, h2, f1, f2, f3, f4⟩ := hv58
              have hX := h2.1
              refine wk_aload_n (i := 0) (q := 62) dX6_seats_61 rfl rfl rfl ?_
              refine wk_getR (fi := 9) (q := 65) dX6_seats_62 rfl fl_X6_60 rfl rfl hX.ob hX.r9 ?_
              refine wk_aload_n (i := 0) (q := 66) dX6_seats_65 rfl rfl rfl ?_
              refine wk_getR (fi := 4) (q := 69) dX6_seats_66 rfl fl_X6_34 rfl rfl hX.ob hX.r4 ?_
              refine wk_cV1 (q := 72) dX6_seats_69 rfl vl_X6_201 ⟨_, _, rfl⟩ hX.o9.ob (ct_X2_find hX.o9 hX.t4 ⟨by have := hh.otx; omega, by omega⟩ (hok.tab (by omega)).1 (hok.tab (by omega)).2.1 h2.2.2.2.2.2.2.2.1.1 f2 f3) (qRo_m ok_X2_find (by decide) (Nat.le_refl _) (Nat.le_refl _)) (Nat.le_of_ble_eq_true rfl) (fun I69 L69 R69 hv69 => ?_)
              obtain ⟨rfl, rfl, g1, g2, g3⟩ := hv69
              have h3 := h2.sea (I' := I69) hX g1 (Or.inr ⟨g2, by omega, g3⟩)
              skip
              first
                | exact key _ _ _ (by omega) (by omega) (by omega) (by omega) (by omega) h3 (fun c i q => (g1 c i (by omega) (by omega)).trans (f1 c i (by omega))) (fun c i q => up_na _ _ _ _ (by omega)) (g3 aim (by omega) (by omega))
                | (rcases kb with z | ⟨z1, z2, z3⟩
                   · omega
                   · exact key _ _ _ (by omega) (by omega) (by omega) (by omega) z2 hh (fun _ _ _ => rfl) (fun _ _ _ => rfl) (z3 aim (by omega) (by omega)))
          · rw [e7] at hv31
            refine wk_if_ne (t := 40) (q := 37) dX6_seats_34 rfl rfl (by omega) (fun hq => absurd hq (by decide)) (fun _ => ?_)
            refine wk_bipush (q := 39) dX6_seats_37 rfl (by decide +kernel) ?_
            refine wk_iret dX6_seats_39 rfl ⟨Nat.le_refl _, Nat.le_refl _⟩ rfl ?_
            refine cp_same h rfl ?_
            unfold r_seats
            first
              | rw [if_pos (by omega)]
              | rw [if_neg (by omega), if_pos (by omega)]
              | rw [if_neg (by omega), if_neg (by omega), if_pos hv31]
        · refine wk_iconst (q := 29) dX6_seats_28 rfl ?_
          refine wk_iret dX6_seats_29 rfl ⟨Nat.le_refl _, Nat.le_refl _⟩ rfl ?_
          refine cp_same h rfl ?_
          unfold r_seats
          first
            | rw [if_pos (by omega)]
            | rw [if_neg (by omega), if_pos (by omega)]
            | rw [if_neg (by omega), if_neg (by omega), if_pos hv31]
    · refine wk_bipush (q := 11) dX6_seats_9 rfl (by decide +kernel) ?_
      refine wk_iret dX6_seats_11 rfl ⟨Nat.le_refl _, Nat.le_refl _⟩ rfl ?_
      refine cp_same h rfl ?_
      unfold r_seats
      first
        | rw [if_pos (by omega)]
        | rw [if_neg (by omega), if_pos (by omega)]
        | rw [if_neg (by omega), if_neg (by omega), if_pos hv31]
end SEATS4
