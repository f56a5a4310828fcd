/-! the reference's calls (2): say, swap, step, courses, forget -/
section MOD2
variable {l : Launch} {E : qEv} {n : Nat} {sh : qSh} {I L : qI} {R : qR}
theorem om_say {m : Nat} {V : VV} {g d v : Int} (hM : qMod E.2.2 n sh R m) (h : MI I m V) (hg : in32 g) (hd : in32 d) (hv : in32 v) :
    Ct l E 1 mX7_say [.ref m, .int (zI g), .int (zI d), .int (zI v)] (n, sh, I, L, R) 0 0 (qZ n sh (mpZ m I L R (r_say V g d v) (s_say V g d v))) := by
  have hng := h.1.ng
  obtain ⟨e5, e6, ed, eg⟩ := h.2.2.2.2.2.1
  refine Ct.of (lo := [(0, _), (1, _), (2, _), (3, _)]) ok_X7_say (Nat.le_of_ble_eq_true rfl) rfl ?_
  refine wk_aload_n (i := 0) (q := 1) dX7_say_0 rfl rfl rfl ?_
  refine wk_iload_n (i := 1) (q := 2) dX7_say_1 rfl rfl rfl ?_
  refine wk_cP1 (q := 5) dX7_say_2 rfl vl_X7_184 ⟨_, _, rfl⟩ hM.ob (ct_X7_isGuest hM hg (by omega)) (qRo_m ok_X7_isGuest (by decide) (Nat.le_refl _) (Nat.le_refl _)) (Nat.le_of_ble_eq_true rfl) (fun v2 hv2 => ?_)
  rcases hv2 with ⟨rfl, hv2⟩ | ⟨rfl, hv2⟩
  · rw [e5] at hv2
    refine wk_if_eq (t := 16) (q := 8) dX7_say_5 rfl rfl (by omega) (fun hq => absurd hq (by decide)) (fun _ => ?_)
    refine wk_aload_n (i := 0) (q := 9) dX7_say_8 rfl rfl rfl ?_
    refine wk_iload_n (i := 2) (q := 10) dX7_say_9 rfl rfl rfl ?_
    refine wk_cP1 (q := 13) dX7_say_10 rfl vl_X7_181 ⟨_, _, rfl⟩ hM.ob (ct_X7_isDish hM hd (by omega)) (qRo_m ok_X7_isDish (by decide) (Nat.le_refl _) (Nat.le_refl _)) (Nat.le_of_ble_eq_true rfl) (fun v10 hv10 => ?_)
    rcases hv10 with ⟨rfl, hv10⟩ | ⟨rfl, hv10⟩
    · rw [e6] at hv10
      refine wk_if_ne (t := 18) (q := 16) dX7_say_13 rfl rfl (by omega) (fun _ => ?_) (fun hq => absurd hq (by decide))
      refine wk_iload_n (i := 3) (q := 19) dX7_say_18 rfl rfl rfl ?_
      refine wk_iconst (q := 20) dX7_say_19 rfl ?_
      refine wk_bipush (q := 22) dX7_say_20 rfl (by decide +kernel) ?_
      refine wk_sP3 (q := 25) dX7_say_22 rfl sl_X7_121 (ct_X7_within hv (by omega) (by omega)) (qRo_m ok_X7_within (by decide) (Nat.le_refl _) (Nat.le_refl _)) (Nat.le_of_ble_eq_true rfl) (fun v22 hv22 => ?_)
      rcases hv22 with ⟨rfl, hv22⟩ | ⟨rfl, hv22⟩
      · refine wk_if_ne (t := 31) (q := 28) dX7_say_25 rfl rfl (by omega) (fun _ => ?_) (fun hq => absurd hq (by decide))
        refine wk_aload_n (i := 0) (q := 32) dX7_say_31 rfl rfl rfl ?_
        refine wk_getR (fi := 12) (q := 35) dX7_say_32 rfl fl_X7_34 rfl rfl hM.ob hM.r12 ?_
        refine wk_bipush (q := 37) dX7_say_35 rfl (by decide +kernel) ?_
        refine wk_iload_n (i := 1) (q := 38) dX7_say_37 rfl rfl rfl ?_
        refine wk_imul (q := 39) dX7_say_38 rfl ?_
        refine wk_iload_n (i := 2) (q := 40) dX7_say_39 rfl rfl rfl ?_
        refine wk_iadd (q := 41) dX7_say_40 rfl ?_
        refine wk_iald (q := 42) dX7_say_41 rfl hM.s12 (by omega) ?_
        refine wk_iconst (q := 43) dX7_say_42 rfl ?_
        rw [(eg g hv2.1 hv2.2).2.2.2 d hv10.1 hv10.2]
        have hw3 := ((h.1.tab (by omega)).1.2.2.2.2.2 g hv2.1 hv2.2).2.2.2.2.2.2 d hv10.1 hv10.2
        refine wk_icmp_ne (t := 49) (q := 46) dX7_say_43 rfl rfl (by omega) (by omega) (fun hc43 => ?_) (fun hc43 => ?_)
        · refine wk_aload_n (i := 0) (q := 50) dX7_say_49 rfl rfl rfl ?_
          refine wk_getR (fi := 13) (q := 53) dX7_say_50 rfl fl_X7_37 rfl rfl hM.ob hM.r13 ?_
          refine wk_bipush (q := 55) dX7_say_53 rfl (by decide +kernel) ?_
          refine wk_iload_n (i := 1) (q := 56) dX7_say_55 rfl rfl rfl ?_
          refine wk_imul (q := 57) dX7_say_56 rfl ?_
          refine wk_iload_n (i := 2) (q := 58) dX7_say_57 rfl rfl rfl ?_
          refine wk_iadd (q := 59) dX7_say_58 rfl ?_
          refine wk_iald (q := 60) dX7_say_59 rfl hM.s13 (by omega) ?_
          refine wk_istore (i := 4) (lo' := [(0, _), (1, _), (2, _), (3, _), (4, _)]) (q := 62) dX7_say_60 rfl (by decide) rfl ?_
          refine wk_aload_n (i := 0) (q := 63) dX7_say_62 rfl rfl rfl ?_
          refine wk_getR (fi := 13) (q := 66) dX7_say_63 rfl fl_X7_37 rfl rfl hM.ob hM.r13 ?_
          refine wk_bipush (q := 68) dX7_say_66 rfl (by decide +kernel) ?_
          refine wk_iload_n (i := 1) (q := 69) dX7_say_68 rfl rfl rfl ?_
          refine wk_imul (q := 70) dX7_say_69 rfl ?_
          refine wk_iload_n (i := 2) (q := 71) dX7_say_70 rfl rfl rfl ?_
          refine wk_iadd (q := 72) dX7_say_71 rfl ?_
          refine wk_iload_n (i := 3) (q := 73) dX7_say_72 rfl rfl rfl ?_
          refine wk_iast (q := 74) dX7_say_73 rfl hM.s13 (by omega) ?_
          refine wk_iload (i := 4) (q := 76) dX7_say_74 rfl rfl ?_
          refine wk_iret dX7_say_76 rfl ⟨Nat.le_refl _, Nat.le_refl _⟩ rfl ?_
          have hr : I (m + 10) (6 * g + d) = r_say V g d v := by
            unfold r_say
            rw [if_neg (fun q => q ⟨hv2, hv10⟩), if_neg (by omega), if_neg hc43]
            exact ((h.2.2.2.2.2.2 (by omega)).2.2.2 g hv2.1 hv2.2).2 d hv10.1 hv10.2
          have hs : s_say V g d v = V.setC (V.C.setSa (u2 V.C.sa g d v)) := by
            unfold s_say
            rw [if_neg (fun q => q ⟨hv2, hv10⟩), if_neg (by omega), if_neg hc43]
          obtain ⟨t1, t2, t3⟩ := h.1.tab (by omega)
          have hok2 := CC.ok_sa t2.1 (g := g) (d := d) (v := v) (by omega) hc43
          refine ⟨_, _, _, _, rfl, rfl, hr, ?_, frO_up _ _ (by omega), rfl, rfl⟩
          rw [hs]
          refine h.nowW ⟨rfl, rfl, rfl, rfl⟩ ⟨rfl, rfl, rfl, rfl⟩ ⟨h.1.1, Or.inr ⟨t1, ⟨hok2, t2.2⟩, t3⟩⟩ (fun c i q1 q2 => up_na _ _ _ _ (by omega)) (fun q => ?_)
          obtain ⟨n1, n2, n3, n4⟩ := h.2.2.2.2.2.2 q
          refine ⟨by rw [up_na _ _ _ _ (by omega)]; exact n1, by rw [up_na _ _ _ _ (by omega)]; exact n2, fun s s0 s1 => by rw [up_na _ _ _ _ (by omega)]; exact n3 s s0 s1, fun a a0 a1 => ⟨by rw [up_na _ _ _ _ (by omega)]; exact (n4 a a0 a1).1, fun b b0 b1 => ?_⟩⟩
          have b1' : b < V.T.nd := b1
          show _ = u2 V.C.sa g d v a b
          by_cases hq : a = g ∧ b = d
          · rw [hq.1, hq.2, up_eq, u2_eq]
          · rw [u2_ne (by omega), up_ni _ _ (by omega)]
            exact (n4 a a0 a1).2 b b0 b1
        · refine wk_bipush (q := 48) dX7_say_46 rfl (by decide +kernel) ?_
          refine wk_iret dX7_say_48 rfl ⟨Nat.le_refl _, Nat.le_refl _⟩ rfl ?_
          refine mp_same h ?_ ?_
          · unfold s_say
            first
              | rw [if_pos (fun q => hv2 q.1)]
              | rw [if_pos (fun q => hv10 q.2)]
              | rw [if_neg (fun q => q ⟨hv2, hv10⟩), if_pos (by omega)]
              | rw [if_neg (fun q => q ⟨hv2, hv10⟩), if_neg (by omega), if_pos hc43]
          · unfold r_say
            first
              | rw [if_pos (fun q => hv2 q.1)]
              | rw [if_pos (fun q => hv10 q.2)]
              | rw [if_neg (fun q => q ⟨hv2, hv10⟩), if_pos (by omega)]
              | rw [if_neg (fun q => q ⟨hv2, hv10⟩), if_neg (by omega), if_pos hc43]
      · refine wk_if_ne (t := 31) (q := 28) dX7_say_25 rfl rfl (by omega) (fun hq => absurd hq (by decide)) (fun _ => ?_)
        refine wk_bipush (q := 30) dX7_say_28 rfl (by decide +kernel) ?_
        refine wk_iret dX7_say_30 rfl ⟨Nat.le_refl _, Nat.le_refl _⟩ rfl ?_
        refine mp_same h ?_ ?_
        · unfold s_say
          first
            | rw [if_pos (fun q => hv2 q.1)]
            | rw [if_pos (fun q => hv10 q.2)]
            | rw [if_neg (fun q => q ⟨hv2, hv10⟩), if_pos (by omega)]
            | rw [if_neg (fun q => q ⟨hv2, hv10⟩), if_neg (by omega), if_pos hc43]
        · unfold r_say
          first
            | rw [if_pos (fun q => hv2 q.1)]
            | rw [if_pos (fun q => hv10 q.2)]
            | rw [if_neg (fun q => q ⟨hv2, hv10⟩), if_pos (by omega)]
            | rw [if_neg (fun q => q ⟨hv2, hv10⟩), if_neg (by omega), if_pos hc43]
    · rw [e6] at hv10
      refine wk_if_ne (t := 18) (q := 16) dX7_say_13 rfl rfl (by omega) (fun hq => absurd hq (by decide)) (fun _ => ?_)
      refine wk_iconst (q := 17) dX7_say_16 rfl ?_
      refine wk_iret dX7_say_17 rfl ⟨Nat.le_refl _, Nat.le_refl _⟩ rfl ?_
      refine mp_same h ?_ ?_
      · unfold s_say
        first
          | rw [if_pos (fun q => hv2 q.1)]
          | rw [if_pos (fun q => hv10 q.2)]
          | rw [if_neg (fun q => q ⟨hv2, hv10⟩), if_pos (by omega)]
          | rw [if_neg (fun q => q ⟨hv2, hv10⟩), if_neg (by omega), if_pos hc43]
      · unfold r_say
        first
          | rw [if_pos (fun q => hv2 q.1)]
          | rw [if_pos (fun q => hv10 q.2)]
          | rw [if_neg (fun q => q ⟨hv2, hv10⟩), if_pos (by omega)]
          | rw [if_neg (fun q => q ⟨hv2, hv10⟩), if_neg (by omega), if_pos hc43]
  · rw [e5] at hv2
    refine wk_if_eq (t := 16) (q := 8) dX7_say_5 rfl rfl (by omega) (fun _ => ?_) (fun hq => absurd hq (by decide))
    refine wk_iconst (q := 17) dX7_say_16 rfl ?_
    refine wk_iret dX7_say_17 rfl ⟨Nat.le_refl _, Nat.le_refl _⟩ rfl ?_
    refine mp_same h ?_ ?_
    · unfold s_say
      first
        | rw [if_pos (fun q => hv2 q.1)]
        | rw [if_pos (fun q => hv10 q.2)]
        | rw [if_neg (fun q => q ⟨hv2, hv10⟩), if_pos (by omega)]
        | rw [if_neg (fun q => q ⟨hv2, hv10⟩), if_neg (by omega), if_pos hc43]
    · unfold r_say
      first
        | rw [if_pos (fun q => hv2 q.1)]
        | rw [if_pos (fun q => hv10 q.2)]
        | rw [if_neg (fun q => q ⟨hv2, hv10⟩), if_pos (by omega)]
        | rw [if_neg (fun q => q ⟨hv2, hv10⟩), if_neg (by omega), if_pos hc43]
theorem om_swap {m : Nat} {V : VV} {g k : Int} (hM : qMod E.2.2 n sh R m) (h : MI I m V) (hg : in32 g) (hk : in32 k) :
    Ct l E 1 mX7_swap [.ref m, .int (zI g), .int (zI k)] (n, sh, I, L, R) 0 0 (qZ n sh (mpZ m I L R (r_swap V g k) (s_swap V g k))) := by
  have hng := h.1.ng
  obtain ⟨e5, e6, ed, eg⟩ := h.2.2.2.2.2.1
  refine Ct.of (lo := [(0, _), (1, _), (2, _)]) ok_X7_swap (Nat.le_of_ble_eq_true rfl) rfl ?_
  refine wk_aload_n (i := 0) (q := 1) dX7_swap_0 rfl rfl rfl ?_
  refine wk_iload_n (i := 1) (q := 2) dX7_swap_1 rfl rfl rfl ?_
  refine wk_cP1 (q := 5) dX7_swap_2 rfl vl_X7_184 ⟨_, _, rfl⟩ hM.ob (ct_X7_isGuest hM hg (by omega)) (qRo_m ok_X7_isGuest (by decide) (Nat.le_refl _) (Nat.le_refl _)) (Nat.le_of_ble_eq_true rfl) (fun v2 hv2 => ?_)
  rcases hv2 with ⟨rfl, hv2⟩ | ⟨rfl, hv2⟩
  · rw [e5] at hv2
    refine wk_if_eq (t := 16) (q := 8) dX7_swap_5 rfl rfl (by omega) (fun hq => absurd hq (by decide)) (fun _ => ?_)
    refine wk_aload_n (i := 0) (q := 9) dX7_swap_8 rfl rfl rfl ?_
    refine wk_iload_n (i := 2) (q := 10) dX7_swap_9 rfl rfl rfl ?_
    refine wk_cP1 (q := 13) dX7_swap_10 rfl vl_X7_184 ⟨_, _, rfl⟩ hM.ob (ct_X7_isGuest hM hk (by omega)) (qRo_m ok_X7_isGuest (by decide) (Nat.le_refl _) (Nat.le_refl _)) (Nat.le_of_ble_eq_true rfl) (fun v10 hv10 => ?_)
    rcases hv10 with ⟨rfl, hv10⟩ | ⟨rfl, hv10⟩
    · rw [e5] at hv10
      refine wk_if_ne (t := 18) (q := 16) dX7_swap_13 rfl rfl (by omega) (fun _ => ?_) (fun hq => absurd hq (by decide))
      refine wk_aload_n (i := 0) (q := 19) dX7_swap_18 rfl rfl rfl ?_
      refine wk_iload_n (i := 1) (q := 20) dX7_swap_19 rfl rfl rfl ?_
      have a3 := (h.seat hv2.1 hv2.2).1
      have b3 := (h.seat hv10.1 hv10.2).1
      refine wk_cP1 (q := 23) dX7_swap_20 rfl vl_X7_187 ⟨_, _, rfl⟩ hM.ob (om_seatOf hM h hv2.1 hv2.2) (qRo_m ok_X7_seatOf (by decide) (Nat.le_refl _) (Nat.le_refl _)) (Nat.le_of_ble_eq_true rfl) (fun v20 hv20 => ?_)
      subst hv20
      refine wk_istore_n (i := 3) (lo' := [(0, _), (1, _), (2, _), (3, _)]) (q := 24) dX7_swap_23 rfl rfl (by decide) rfl ?_
      refine wk_aload_n (i := 0) (q := 25) dX7_swap_24 rfl rfl rfl ?_
      refine wk_iload_n (i := 2) (q := 26) dX7_swap_25 rfl rfl rfl ?_
      refine wk_cP1 (q := 29) dX7_swap_26 rfl vl_X7_187 ⟨_, _, rfl⟩ hM.ob (om_seatOf hM h hv10.1 hv10.2) (qRo_m ok_X7_seatOf (by decide) (Nat.le_refl _) (Nat.le_refl _)) (Nat.le_of_ble_eq_true rfl) (fun v26 hv26 => ?_)
      subst hv26
      refine wk_istore (i := 4) (lo' := [(0, _), (1, _), (2, _), (3, _), (4, _)]) (q := 31) dX7_swap_29 rfl (by decide) rfl ?_
      refine wk_aload_n (i := 0) (q := 32) dX7_swap_31 rfl rfl rfl ?_
      refine wk_getR (fi := 14) (q := 35) dX7_swap_32 rfl fl_X7_40 rfl rfl hM.ob hM.r14 ?_
      refine wk_iload_n (i := 3) (q := 36) dX7_swap_35 rfl rfl rfl ?_
      refine wk_iload_n (i := 2) (q := 37) dX7_swap_36 rfl rfl rfl ?_
      refine wk_iast (q := 38) dX7_swap_37 rfl hM.s14 (by omega) ?_
      refine wk_aload_n (i := 0) (q := 39) dX7_swap_38 rfl rfl rfl ?_
      refine wk_getR (fi := 14) (q := 42) dX7_swap_39 rfl fl_X7_40 rfl rfl hM.ob hM.r14 ?_
      refine wk_iload (i := 4) (q := 44) dX7_swap_42 rfl rfl ?_
      refine wk_iload_n (i := 1) (q := 45) dX7_swap_44 rfl rfl rfl ?_
      refine wk_iast (q := 46) dX7_swap_45 rfl hM.s14 (by omega) ?_
      refine wk_iconst (q := 47) dX7_swap_46 rfl ?_
      refine wk_iret dX7_swap_47 rfl ⟨Nat.le_refl _, Nat.le_refl _⟩ rfl ?_
      obtain ⟨t1, t2, t3⟩ := h.1.tab (by omega)
      have hs : s_swap V g k = V.setC (V.C.setOd (u1 (u1 V.C.od (seatI V g) k) (seatI V k) g)) := by
        unfold s_swap
        rw [if_pos ⟨hv2, hv10⟩]
      have hr : (1 : Int) = r_swap V g k := by
        unfold r_swap
        rw [if_pos ⟨hv2, hv10⟩]
      have ea : V.C.od (seatI V g) = g := ((seatI_ok h.1 hv2.1 hv2.2).2.2 _ a3.1 a3.2).mpr rfl
      have eb : V.C.od (seatI V k) = k := ((seatI_ok h.1 hv10.1 hv10.2).2.2 _ b3.1 b3.2).mpr rfl
      have hok2 := CC.ok_sw t2 a3 b3 ea eb
      refine ⟨_, _, _, _, rfl, rfl, hr, ?_, fun c i q => by rw [up_na _ _ _ _ (by omega), up_na _ _ _ _ (by omega)], rfl, rfl⟩
      rw [hs]
      refine h.nowW ⟨rfl, rfl, rfl, rfl⟩ ⟨rfl, rfl, rfl, rfl⟩ ⟨h.1.1, Or.inr ⟨t1, hok2, t3⟩⟩ (fun c i q1 q2 => by rw [up_na _ _ _ _ (by omega), up_na _ _ _ _ (by omega)]) (fun q => ?_)
      obtain ⟨n1, n2, n3, n4⟩ := h.2.2.2.2.2.2 q
      refine ⟨by rw [up_na _ _ _ _ (by omega), up_na _ _ _ _ (by omega)]; exact n1, by rw [up_na _ _ _ _ (by omega), up_na _ _ _ _ (by omega)]; exact n2, fun s s0 s1 => ?_, fun a a0 a1 => ⟨by rw [up_na _ _ _ _ (by omega), up_na _ _ _ _ (by omega)]; exact (n4 a a0 a1).1, fun b b0 b1 => by rw [up_na _ _ _ _ (by omega), up_na _ _ _ _ (by omega)]; exact (n4 a a0 a1).2 b b0 b1⟩⟩
      show _ = u1 (u1 V.C.od (seatI V g) k) (seatI V k) g s
      by_cases q1 : s = seatI V k
      · rw [q1, up_eq, u1_eq]
      · rw [up_ni _ _ q1, u1_ne q1]
        by_cases q2 : s = seatI V g
        · rw [q2, up_eq, u1_eq]
        · rw [up_ni _ _ q2, u1_ne q2]
          exact n3 s s0 s1
    · rw [e5] at hv10
      refine wk_if_ne (t := 18) (q := 16) dX7_swap_13 rfl rfl (by omega) (fun hq => absurd hq (by decide)) (fun _ => ?_)
      refine wk_iconst (q := 17) dX7_swap_16 rfl ?_
      refine wk_iret dX7_swap_17 rfl ⟨Nat.le_refl _, Nat.le_refl _⟩ rfl ?_
      refine mp_same h ?_ ?_
      · unfold s_swap
        first
          | rw [if_neg (fun q => hv2 q.1)]
          | rw [if_neg (fun q => hv10 q.2)]
      · unfold r_swap
        first
          | rw [if_neg (fun q => hv2 q.1)]
          | rw [if_neg (fun q => hv10 q.2)]
  · rw [e5] at hv2
    refine wk_if_eq (t := 16) (q := 8) dX7_swap_5 rfl rfl (by omega) (fun _ => ?_) (fun hq => absurd hq (by decide))
    refine wk_iconst (q := 17) dX7_swap_16 rfl ?_
    refine wk_iret dX7_swap_17 rfl ⟨Nat.le_refl _, Nat.le_refl _⟩ rfl ?_
    refine mp_same h ?_ ?_
    · unfold s_swap
      first
        | rw [if_neg (fun q => hv2 q.1)]
        | rw [if_neg (fun q => hv10 q.2)]
    · unfold r_swap
      first
        | rw [if_neg (fun q => hv2 q.1)]
        | rw [if_neg (fun q => hv10 q.2)]
theorem om_step {m : Nat} {V : VV} {v : Int} (hM : qMod E.2.2 n sh R m) (h : MI I m V) (hv : in32 v) :
    Ct l E 1 mX7_step [.ref m, .int (zI v)] (n, sh, I, L, R) 0 0 (qZ n sh (mpZ m I L R (r_step V v) (s_step V v))) := by
  have hng := h.1.ng
  obtain ⟨e5, e6, ed, eg⟩ := h.2.2.2.2.2.1
  refine Ct.of (lo := [(0, _), (1, _)]) ok_X7_step (Nat.le_of_ble_eq_true rfl) rfl ?_
  refine wk_aload_n (i := 0) (q := 1) dX7_step_0 rfl rfl rfl ?_
  refine wk_cP0 (q := 4) dX7_step_1 rfl vl_X7_190 ⟨_, _, rfl⟩ hM.ob (ct_X7_isTable hM (by omega)) (qRo_m ok_X7_isTable (by decide) (Nat.le_refl _) (Nat.le_refl _)) (Nat.le_of_ble_eq_true rfl) (fun v1 hv1 => ?_)
  rcases hv1 with ⟨rfl, hv1⟩ | ⟨rfl, hv1⟩
  · rw [e5] at hv1
    refine wk_if_eq (t := 21) (q := 7) dX7_step_4 rfl rfl (by omega) (fun hq => absurd hq (by decide)) (fun _ => ?_)
    refine wk_iload_n (i := 1) (q := 8) dX7_step_7 rfl rfl rfl ?_
    refine wk_iconst (q := 9) dX7_step_8 rfl ?_
    refine wk_aload_n (i := 0) (q := 10) dX7_step_9 rfl rfl rfl ?_
    refine wk_getI (fi := 5) (q := 13) dX7_step_10 rfl fl_X7_125 rfl rfl hM.ob ?_
    refine wk_iconst (q := 14) dX7_step_13 rfl ?_
    refine wk_isub (q := 15) dX7_step_14 rfl ?_
    refine wk_sP3 (q := 18) dX7_step_15 rfl sl_X7_121 (ct_X7_within hv (by omega) (by omega)) (qRo_m ok_X7_within (by decide) (Nat.le_refl _) (Nat.le_refl _)) (Nat.le_of_ble_eq_true rfl) (fun v15 hv15 => ?_)
    rcases hv15 with ⟨rfl, hv15⟩ | ⟨rfl, hv15⟩
    · refine wk_if_ne (t := 24) (q := 21) dX7_step_18 rfl rfl (by omega) (fun _ => ?_) (fun hq => absurd hq (by decide))
      refine wk_aload_n (i := 0) (q := 25) dX7_step_24 rfl rfl rfl ?_
      refine wk_getI (fi := 16) (q := 28) dX7_step_25 rfl fl_X7_161 rfl rfl hM.ob ?_
      refine wk_istore_n (i := 2) (lo' := [(0, _), (1, _), (2, _)]) (q := 29) dX7_step_28 rfl rfl (by decide) rfl ?_
      refine wk_aload_n (i := 0) (q := 30) dX7_step_29 rfl rfl rfl ?_
      refine wk_iload_n (i := 1) (q := 31) dX7_step_30 rfl rfl rfl ?_
      refine wk_putI (fi := 16) (q := 34) dX7_step_31 rfl fl_X7_161 fw_7_16 rfl rfl hM.ob ?_
      refine wk_iload_n (i := 2) (q := 35) dX7_step_34 rfl rfl rfl ?_
      refine wk_iret dX7_step_35 rfl ⟨Nat.le_refl _, Nat.le_refl _⟩ rfl ?_
      obtain ⟨t1, t2, t3⟩ := h.1.tab (by omega)
      have hs : s_step V v = V.setC (V.C.setSt v) := by
        unfold s_step
        rw [if_pos (by omega)]
      have hr : I m 16 = r_step V v := by
        unfold r_step
        rw [if_pos (by omega)]
        exact (h.2.2.2.2.2.2 (by omega)).1
      refine ⟨_, _, _, _, rfl, rfl, hr, ?_, frO_up _ _ (by omega), rfl, rfl⟩
      rw [hs]
      refine h.nowW ⟨rfl, rfl, rfl, rfl⟩ ⟨rfl, rfl, rfl, rfl⟩ ⟨h.1.1, Or.inr ⟨t1, ⟨CC.ok_st t2.1 (by omega), t2.2⟩, t3⟩⟩ (fun c i q1 q2 => up_off (by omega)) (fun q => ?_)
      obtain ⟨n1, n2, n3, n4⟩ := h.2.2.2.2.2.2 q
      exact ⟨up_eq _ _ _ _, by rw [up_off (by omega)]; exact n2, fun s s0 s1 => by rw [up_off (by omega)]; exact n3 s s0 s1, fun a a0 a1 => ⟨by rw [up_off (by omega)]; exact (n4 a a0 a1).1, fun b b0 b1 => by rw [up_off (by omega)]; exact (n4 a a0 a1).2 b b0 b1⟩⟩
    · refine wk_if_ne (t := 24) (q := 21) dX7_step_18 rfl rfl (by omega) (fun hq => absurd hq (by decide)) (fun _ => ?_)
      refine wk_bipush (q := 23) dX7_step_21 rfl (by decide +kernel) ?_
      refine wk_iret dX7_step_23 rfl ⟨Nat.le_refl _, Nat.le_refl _⟩ rfl ?_
      refine mp_same h ?_ ?_
      · unfold s_step
        rw [if_neg (by omega)]
      · unfold r_step
        rw [if_neg (by omega)]
  · rw [e5] at hv1
    refine wk_if_eq (t := 21) (q := 7) dX7_step_4 rfl rfl (by omega) (fun _ => ?_) (fun hq => absurd hq (by decide))
    refine wk_bipush (q := 23) dX7_step_21 rfl (by decide +kernel) ?_
    refine wk_iret dX7_step_23 rfl ⟨Nat.le_refl _, Nat.le_refl _⟩ rfl ?_
    refine mp_same h ?_ ?_
    · unfold s_step
      rw [if_neg (by omega)]
    · unfold r_step
      rw [if_neg (by omega)]
theorem om_courses {m : Nat} {V : VV} {v : Int} (hM : qMod E.2.2 n sh R m) (h : MI I m V) (hv : in32 v) :
    Ct l E 1 mX7_courses [.ref m, .int (zI v)] (n, sh, I, L, R) 0 0 (qZ n sh (mpZ m I L R (r_courses V v) (s_courses V v))) := by
  have hng := h.1.ng
  obtain ⟨e5, e6, ed, eg⟩ := h.2.2.2.2.2.1
  refine Ct.of (lo := [(0, _), (1, _)]) ok_X7_courses (Nat.le_of_ble_eq_true rfl) rfl ?_
  refine wk_iload_n (i := 1) (q := 1) dX7_courses_0 rfl rfl rfl ?_
  refine wk_iconst (q := 2) dX7_courses_1 rfl ?_
  refine wk_bipush (q := 4) dX7_courses_2 rfl (by decide +kernel) ?_
  refine wk_sP3 (q := 7) dX7_courses_4 rfl sl_X7_121 (ct_X7_within hv (by omega) (by omega)) (qRo_m ok_X7_within (by decide) (Nat.le_refl _) (Nat.le_refl _)) (Nat.le_of_ble_eq_true rfl) (fun v4 hv4 => ?_)
  rcases hv4 with ⟨rfl, hv4⟩ | ⟨rfl, hv4⟩
  · refine wk_if_ne (t := 13) (q := 10) dX7_courses_7 rfl rfl (by omega) (fun _ => ?_) (fun hq => absurd hq (by decide))
    refine wk_aload_n (i := 0) (q := 14) dX7_courses_13 rfl rfl rfl ?_
    refine wk_cP0 (q := 17) dX7_courses_14 rfl vl_X7_190 ⟨_, _, rfl⟩ hM.ob (ct_X7_isTable hM (by omega)) (qRo_m ok_X7_isTable (by decide) (Nat.le_refl _) (Nat.le_refl _)) (Nat.le_of_ble_eq_true rfl) (fun v14 hv14 => ?_)
    rcases hv14 with ⟨rfl, hv14⟩ | ⟨rfl, hv14⟩
    · rw [e5] at hv14
      refine wk_if_ne (t := 23) (q := 20) dX7_courses_17 rfl rfl (by omega) (fun _ => ?_) (fun hq => absurd hq (by decide))
      refine wk_aload_n (i := 0) (q := 24) dX7_courses_23 rfl rfl rfl ?_
      refine wk_getI (fi := 17) (q := 27) dX7_courses_24 rfl fl_X7_164 rfl rfl hM.ob ?_
      refine wk_istore_n (i := 2) (lo' := [(0, _), (1, _), (2, _)]) (q := 28) dX7_courses_27 rfl rfl (by decide) rfl ?_
      refine wk_aload_n (i := 0) (q := 29) dX7_courses_28 rfl rfl rfl ?_
      refine wk_iload_n (i := 1) (q := 30) dX7_courses_29 rfl rfl rfl ?_
      refine wk_putI (fi := 17) (q := 33) dX7_courses_30 rfl fl_X7_164 fw_7_17 rfl rfl hM.ob ?_
      refine wk_iload_n (i := 2) (q := 34) dX7_courses_33 rfl rfl rfl ?_
      refine wk_iret dX7_courses_34 rfl ⟨Nat.le_refl _, Nat.le_refl _⟩ rfl ?_
      obtain ⟨t1, t2, t3⟩ := h.1.tab (by omega)
      have hs : s_courses V v = V.setC (V.C.setCo v) := by
        unfold s_courses
        rw [if_neg (by omega), if_pos (by omega)]
      have hr : I m 17 = r_courses V v := by
        unfold r_courses
        rw [if_neg (by omega), if_pos (by omega)]
        exact (h.2.2.2.2.2.2 (by omega)).2.1
      refine ⟨_, _, _, _, rfl, rfl, hr, ?_, frO_up _ _ (by omega), rfl, rfl⟩
      rw [hs]
      refine h.nowW ⟨rfl, rfl, rfl, rfl⟩ ⟨rfl, rfl, rfl, rfl⟩ ⟨h.1.1, Or.inr ⟨t1, ⟨CC.ok_co t2.1 (by omega), t2.2⟩, t3⟩⟩ (fun c i q1 q2 => up_off (by omega)) (fun q => ?_)
      obtain ⟨n1, n2, n3, n4⟩ := h.2.2.2.2.2.2 q
      exact ⟨by rw [up_off (by omega)]; exact n1, up_eq _ _ _ _, fun s s0 s1 => by rw [up_off (by omega)]; exact n3 s s0 s1, fun a a0 a1 => ⟨by rw [up_off (by omega)]; exact (n4 a a0 a1).1, fun b b0 b1 => by rw [up_off (by omega)]; exact (n4 a a0 a1).2 b b0 b1⟩⟩
    · rw [e5] at hv14
      refine wk_if_ne (t := 23) (q := 20) dX7_courses_17 rfl rfl (by omega) (fun hq => absurd hq (by decide)) (fun _ => ?_)
      refine wk_bipush (q := 22) dX7_courses_20 rfl (by decide +kernel) ?_
      refine wk_iret dX7_courses_22 rfl ⟨Nat.le_refl _, Nat.le_refl _⟩ rfl ?_
      refine mp_same h ?_ ?_
      · unfold s_courses
        first
          | rw [if_pos (by omega)]
          | rw [if_neg (by omega), if_neg (by omega)]
      · unfold r_courses
        first
          | rw [if_pos (by omega)]
          | rw [if_neg (by omega), if_neg (by omega)]
  · refine wk_if_ne (t := 13) (q := 10) dX7_courses_7 rfl rfl (by omega) (fun hq => absurd hq (by decide)) (fun _ => ?_)
    refine wk_bipush (q := 12) dX7_courses_10 rfl (by decide +kernel) ?_
    refine wk_iret dX7_courses_12 rfl ⟨Nat.le_refl _, Nat.le_refl _⟩ rfl ?_
    refine mp_same h ?_ ?_
    · unfold s_courses
      first
        | rw [if_pos (by omega)]
        | rw [if_neg (by omega), if_neg (by omega)]
    · unfold r_courses
      first
        | rw [if_pos (by omega)]
        | rw [if_neg (by omega), if_neg (by omega)]
theorem om_forget {m : Nat} {V : VV} (hM : qMod E.2.2 n sh R m) (h : MI I m V) :
    Ct l E 0 mX7_forget [.ref m] (n, sh, I, L, R) 0 0 (qZ n sh (mpZ m I L R (cntL V.la V.T.ng.toNat) (V.setLa (fun _ => -8)))) := by
  have hng := h.1.ng
  obtain ⟨e5, e6, ed, eg⟩ := h.2.2.2.2.2.1
  have loop : ∀ k : Nat, k ≤ V.T.ng.toNat → ∀ I1 : qI, ((∀ b i, b ≠ m + 12 → I1 b i = I b i) ∧ (∀ g : Int, (k : Int) ≤ g → I1 (m + 12) g = I (m + 12) g) ∧ ∀ g : Int, 0 ≤ g → g < k → I1 (m + 12) g = -8) → Wk l E (qmo E 0 n 0 0 (qZ n sh (mpZ m I L R (cntL V.la V.T.ng.toNat) (V.setLa (fun _ => -8))))) mX7_forget 0 0 4
      [(0, .ref m), (1, .int (zI (cntL V.la k))), (2, .int (zI (k : Int)))] [] (n, sh, I1, L, R) := by
    refine up_ind V.T.ng.toNat ?_ ?_
    · rintro I1 ⟨f1, f2, f3⟩
      have e5' : I1 m 5 = V.T.ng := by rw [f1 _ _ (by omega)]; exact e5
      refine wk_iload_n (i := 2) (q := 5) dX7_forget_4 rfl rfl rfl ?_
      refine wk_aload_n (i := 0) (q := 6) dX7_forget_5 rfl rfl rfl ?_
      refine wk_getI (fi := 5) (q := 9) dX7_forget_6 rfl fl_X7_125 rfl rfl hM.ob ?_
      refine wk_icmp_ge (t := 45) (q := 12) dX7_forget_9 rfl rfl (by omega) (by omega) (fun hc9 => ?_) (fun hc9 => ?_)
      · refine wk_iload_n (i := 1) (q := 46) dX7_forget_45 rfl rfl rfl ?_
        refine wk_iret dX7_forget_46 rfl ⟨Nat.le_refl _, Nat.le_refl _⟩ rfl ?_
        refine ⟨_, _, _, _, rfl, rfl, rfl, ?_, fun b i q => f1 b i (by omega), rfl, rfl⟩
        refine h.nowW ⟨rfl, rfl, rfl, rfl⟩ ⟨rfl, rfl, rfl, rfl⟩ ⟨h.1.1, ?_⟩ (fun c i q1 q2 => f1 c i (by omega)) (fun q => ?_)
        · rcases h.1.2 with q | ⟨q1, q2, q3⟩
          · exact Or.inl q
          · refine Or.inr ⟨q1, q2, fun g g0 g1 => ?_⟩
            have := q1.2.2.1
            show (-9 : Int) ≤ -8 ∧ (-8 : Int) < V.T.nd ∧ ((-8 : Int) < 0 → (-8 : Int) ≤ -8)
            omega
        · obtain ⟨n1, n2, n3, n4⟩ := h.2.2.2.2.2.2 q
          exact ⟨by rw [f1 _ _ (by omega)]; exact n1, by rw [f1 _ _ (by omega)]; exact n2, fun s s0 s1 => by rw [f1 _ _ (by omega)]; exact n3 s s0 s1, fun a a0 a1 => ⟨f3 a a0 (by have : a < V.T.ng := a1; omega), fun b b0 b1 => by rw [f1 _ _ (by omega)]; exact (n4 a a0 a1).2 b b0 b1⟩⟩
      · omega
    · rintro k hk ih I1 ⟨f1, f2, f3⟩
      have e5' : I1 m 5 = V.T.ng := by rw [f1 _ _ (by omega)]; exact e5
      have h1 : I1 (m + 12) k = V.la k := by rw [f2 k (by omega)]; exact ((h.2.2.2.2.2.2 (by omega)).2.2.2 k (by omega) (by omega)).1
      have hl := (h.1.tab (by omega)).2.2 k (by omega) (by omega)
      have h2 : cntL V.la (k + 1) = cntL V.la k + if V.la k = -8 then 0 else 1 := rfl
      rw [h2] at ih
      refine wk_iload_n (i := 2) (q := 5) dX7_forget_4 rfl rfl rfl ?_
      refine wk_aload_n (i := 0) (q := 6) dX7_forget_5 rfl rfl rfl ?_
      refine wk_getI (fi := 5) (q := 9) dX7_forget_6 rfl fl_X7_125 rfl rfl hM.ob ?_
      refine wk_icmp_ge (t := 45) (q := 12) dX7_forget_9 rfl rfl (by omega) (by omega) (fun hc9 => ?_) (fun hc9 => ?_)
      · omega
      · refine wk_iload_n (i := 1) (q := 13) dX7_forget_12 rfl rfl rfl ?_
        refine wk_aload_n (i := 0) (q := 14) dX7_forget_13 rfl rfl rfl ?_
        refine wk_getR (fi := 15) (q := 17) dX7_forget_14 rfl fl_X7_43 rfl rfl hM.ob hM.r15 ?_
        refine wk_iload_n (i := 2) (q := 18) dX7_forget_17 rfl rfl rfl ?_
        refine wk_iald (q := 19) dX7_forget_18 rfl hM.s15 (by omega) ?_
        refine wk_bipush (q := 21) dX7_forget_19 rfl (by decide +kernel) ?_
        refine wk_icmp_ne (t := 28) (q := 24) dX7_forget_21 rfl rfl (by omega) (by omega) (fun hc21 => ?_) (fun hc21 => ?_)
        · refine wk_iconst (q := 29) dX7_forget_28 rfl ?_
          refine wk_iadd (q := 30) dX7_forget_29 rfl ?_
          refine wk_istore_n (i := 1) (lo' := [(0, _), (1, _), (2, _)]) (q := 31) dX7_forget_30 rfl rfl (by decide) rfl ?_
          refine wk_aload_n (i := 0) (q := 32) dX7_forget_31 rfl rfl rfl ?_
          refine wk_getR (fi := 15) (q := 35) dX7_forget_32 rfl fl_X7_43 rfl rfl hM.ob hM.r15 ?_
          refine wk_iload_n (i := 2) (q := 36) dX7_forget_35 rfl rfl rfl ?_
          refine wk_bipush (q := 38) dX7_forget_36 rfl (by decide +kernel) ?_
          refine wk_iast (q := 39) dX7_forget_38 rfl hM.s15 (by omega) ?_
          refine wk_iinc (lo' := [(0, _), (1, _), (2, _)]) (q := 42) dX7_forget_39 rfl rfl (by decide) rfl ?_
          refine wk_goto (t := 4) dX7_forget_42 rfl ?_
          skip
          have f' : (∀ b i, b ≠ m + 12 → up I1 (m + 12) (k : Int) (-8) b i = I b i) ∧ (∀ g : Int, ((k + 1 : Nat) : Int) ≤ g → up I1 (m + 12) (k : Int) (-8) (m + 12) g = I (m + 12) g) ∧ ∀ g : Int, 0 ≤ g → g < ((k + 1 : Nat) : Int) → up I1 (m + 12) (k : Int) (-8) (m + 12) g = -8 := by
            refine ⟨fun b i q => by rw [up_na _ _ _ _ q]; exact f1 b i q, fun g q => by rw [up_ni _ _ (by omega)]; exact f2 g (by omega), fun g g0 g1 => ?_⟩
            by_cases hq : g = k
            · rw [hq, up_eq]
            · rw [up_ni _ _ hq]
              exact f3 g g0 (by omega)
          have ih' := ih _ f'
          first
            | (rw [if_neg (by omega)] at ih'; exact ih')
            | (rw [if_pos (by omega)] at ih'; exact ih')
        · refine wk_iconst (q := 25) dX7_forget_24 rfl ?_
          refine wk_goto (t := 29) dX7_forget_25 rfl ?_
          refine wk_iadd (q := 30) dX7_forget_29 rfl ?_
          refine wk_istore_n (i := 1) (lo' := [(0, _), (1, _), (2, _)]) (q := 31) dX7_forget_30 rfl rfl (by decide) rfl ?_
          refine wk_aload_n (i := 0) (q := 32) dX7_forget_31 rfl rfl rfl ?_
          refine wk_getR (fi := 15) (q := 35) dX7_forget_32 rfl fl_X7_43 rfl rfl hM.ob hM.r15 ?_
          refine wk_iload_n (i := 2) (q := 36) dX7_forget_35 rfl rfl rfl ?_
          refine wk_bipush (q := 38) dX7_forget_36 rfl (by decide +kernel) ?_
          refine wk_iast (q := 39) dX7_forget_38 rfl hM.s15 (by omega) ?_
          refine wk_iinc (lo' := [(0, _), (1, _), (2, _)]) (q := 42) dX7_forget_39 rfl rfl (by decide) rfl ?_
          refine wk_goto (t := 4) dX7_forget_42 rfl ?_
          skip
          have f' : (∀ b i, b ≠ m + 12 → up I1 (m + 12) (k : Int) (-8) b i = I b i) ∧ (∀ g : Int, ((k + 1 : Nat) : Int) ≤ g → up I1 (m + 12) (k : Int) (-8) (m + 12) g = I (m + 12) g) ∧ ∀ g : Int, 0 ≤ g → g < ((k + 1 : Nat) : Int) → up I1 (m + 12) (k : Int) (-8) (m + 12) g = -8 := by
            refine ⟨fun b i q => by rw [up_na _ _ _ _ q]; exact f1 b i q, fun g q => by rw [up_ni _ _ (by omega)]; exact f2 g (by omega), fun g g0 g1 => ?_⟩
            by_cases hq : g = k
            · rw [hq, up_eq]
            · rw [up_ni _ _ hq]
              exact f3 g g0 (by omega)
          have ih' := ih _ f'
          first
            | (rw [if_neg (by omega)] at ih'; exact ih')
            | (rw [if_pos (by omega)] at ih'; exact ih')
  refine Ct.of (lo := [(0, _)]) ok_X7_forget (Nat.le_of_ble_eq_true rfl) rfl ?_
  have l0 := loop 0 (Nat.zero_le _) I ⟨fun _ _ _ => rfl, fun _ _ => rfl, fun g g0 g1 => by omega⟩
  refine wk_iconst (q := 1) dX7_forget_0 rfl ?_
  refine wk_istore_n (i := 1) (lo' := [(0, _), (1, _)]) (q := 2) dX7_forget_1 rfl rfl (by decide) rfl ?_
  refine wk_iconst (q := 3) dX7_forget_2 rfl ?_
  refine wk_istore_n (i := 2) (lo' := [(0, _), (1, _), (2, _)]) (q := 4) dX7_forget_3 rfl rfl (by decide) rfl ?_
  exact l0
end MOD2
