/-! spite -/
def CC.setSp (C : CC) (v : Int) : CC := (C.1, C.2.1, C.2.2.1, C.2.2.2.1, C.2.2.2.2.1, C.2.2.2.2.2.1, v)
theorem CC.ok_sp {C : CC} {T : TT} (h : C.ok T) {v : Int} (hv : -1 ≤ v ∧ v < 7) : (C.setSp v).ok T := by
  obtain ⟨z1, z2, z3, z4, z5, z6, z7, z8, z9⟩ := h
  exact ⟨z1, z2, z3, z4, z5, z6, hv.1, hv.2, z9⟩
def spC (V : VV) (g : Int) (e : Nat) : CC := if e = 0 then V.C.setSp g else V.C
theorem spC_ok {V : VV} (h : V.C.ok V.T) {g : Int} (hg : 0 ≤ g ∧ g < 7) (e : Nat) : (spC V g e).ok V.T := by
  unfold spC
  split
  · exact CC.ok_sp h (by omega)
  · exact h
def laA (V : VV) : Nat → Int → Int
  | 0 => V.la
  | e + 1 => (evE V.T V.C (laA V e)).la
def laB (V : VV) (g : Int) : Nat → Int → Int
  | 0 => V.la
  | e + 1 => (evE V.T (spC V g e) (laB V g e)).la
theorem laA_ok {V : VV} (hT : V.T.ok) (h : LA2 V.T V.la) : ∀ e, LA2 V.T (laA V e)
  | 0 => h
  | e + 1 => evE_la2 hT (laA_ok hT h e)
theorem laB_ok {V : VV} (hT : V.T.ok) (h : LA2 V.T V.la) (g : Int) : ∀ e, LA2 V.T (laB V g e)
  | 0 => h
  | e + 1 => evE_la2 hT (laB_ok hT h g e)
def goA (V : VV) (g : Int) (e : Nat) (c : Int) : Int := (evE V.T V.C (laA V e)).go c g
def goB (V : VV) (g : Int) (e : Nat) (c : Int) : Int := (evE V.T (spC V g e) (laB V g e)).go c g
def wseN (V : VV) (g : Int) (e : Nat) : Nat → Int
  | 0 => -9
  | c + 1 => if wseN V g e c ≠ -9 then wseN V g e c else if truly V.T g (goB V g e c) < truly V.T g (goA V g e c) then (e : Int) * V.C.co + c else -9
def backN (V : VV) (g : Int) : Nat → Int
  | 0 => -9
  | e + 1 => if backN V g e = -9 then wseN V g e V.C.co.toNat else backN V g e
abbrev smM (V : VV) (g : Int) (e : Nat) : Prop := memK (laA V (e + 1)) V.T.ng.toNat = memK (laB V g (e + 1)) V.T.ng.toNat
def spS (V : VV) (g : Int) : Nat → Int
  | 0 => -1
  | e + 1 => if spS V g e ≠ -1 then spS V g e else if smM V g e then e else -1
def r_spite (V : VV) (g w : Int) : Int := if ¬ (0 ≤ g ∧ g < V.T.ng) then -1 else if ¬ (w = 0 ∨ w = 1) then -2 else if w = 0 then (if spS V g 200 = -1 then -9 else spS V g 200 + 1) else if spS V g 200 = -1 then backN V g 200 else backN V g (spS V g 200 + 1).toNat
theorem go_in {T : TT} (hT : T.ok) {C : CC} {la : Int → Int} : ∀ (c : Nat) (c' x : Int), -9 ≤ (crsN T C c (ev0 T la)).go c' x ∧ (crsN T C c (ev0 T la)).go c' x < T.nd := by
  have stp : ∀ (c : Int) (e : ES), (∀ c' x, -9 ≤ e.go c' x ∧ e.go c' x < T.nd) → ∀ (k : Nat) (c' x : Int), -9 ≤ (askN T C c k e).go c' x ∧ (askN T C c k e).go c' x < T.nd := by
    intro c e h k
    induction k with
    | zero => exact h
    | succ k ih =>
      intro c' x
      show -9 ≤ u2 (askN T C c k e).go c (tgt C k) (askD T C c k (askN T C c k e)) c' x ∧ u2 (askN T C c k e).go c (tgt C k) (askD T C c k (askN T C c k e)) c' x < T.nd
      by_cases hq : c' = c ∧ x = tgt C k
      · have := askD_in hT C c k (askN T C c k e)
        have := hT.2.2.1
        rw [hq.1, hq.2, u2_eq]
        omega
      · rw [u2_ne (by omega)]
        exact ih c' x
  intro c
  induction c with
  | zero =>
    intro c' x
    have := hT.2.2.1
    show (-9 : Int) ≤ -9 ∧ (-9 : Int) < T.nd
    omega
  | succ c ih => exact stp c _ ih _
theorem evE_go {T : TT} (hT : T.ok) {C : CC} {la : Int → Int} (c x : Int) : -9 ≤ (evE T C la).go c x ∧ (evE T C la).go c x < T.nd := go_in hT _ c x
theorem truly_in {T : TT} (hT : T.ok) {g d : Int} (hg : 0 ≤ g ∧ g < T.ng) (hd : -9 ≤ d ∧ d < T.nd) : -1 ≤ truly T g d ∧ truly T g d ≤ 9 := by
  unfold truly
  split
  · omega
  · have := (hT.2.2.2.2.2 g hg.1 hg.2).2.2.2.2.2.2 d (by omega) hd.2
    omega
theorem wseN_in {V : VV} (hC : V.C.ok V.T) {g : Int} {e : Nat} (he : e ≤ 200) : ∀ c : Nat, (c : Int) ≤ V.C.co → wseN V g e c = -9 ∨ (0 ≤ wseN V g e c ∧ wseN V g e c ≤ 1608)
  | 0, _ => Or.inl rfl
  | c + 1, hc => by
    have ih := wseN_in hC (g := g) he c (by omega)
    have c1 := hC.2.2.2.2.1
    have c2 := hC.2.2.2.2.2.1
    have m1 : (e : Int) * V.C.co ≤ (e : Int) * 8 := Int.mul_le_mul_of_nonneg_left c2 (by omega)
    have m2 : 0 ≤ (e : Int) * V.C.co := Int.mul_nonneg (by omega) (by omega)
    unfold wseN
    split
    · exact ih
    · split
      · omega
      · exact Or.inl rfl
theorem backN_in {V : VV} (hC : V.C.ok V.T) {g : Int} : ∀ e : Nat, e ≤ 200 → backN V g e = -9 ∨ (0 ≤ backN V g e ∧ backN V g e ≤ 1608)
  | 0, _ => Or.inl rfl
  | e + 1, he => by
    unfold backN
    split
    · exact wseN_in hC (by omega) _ (by have := hC.2.2.2.2.1; omega)
    · exact backN_in hC e (by omega)
theorem spS_at {V : VV} {g : Int} {e : Nat} (h : spS V g e = -1) (hs : smM V g e) : ∀ m : Nat, e + 1 ≤ m → spS V g m = e
  | 0, hm => by omega
  | m + 1, hm => by
    by_cases hq : e = m
    · rw [← hq]
      unfold spS
      rw [if_neg (by omega), if_pos hs]
    · unfold spS
      rw [if_pos (by rw [spS_at h hs m (by omega)]; omega)]
      exact spS_at h hs m (by omega)
theorem spS_go {V : VV} {g : Int} {e : Nat} (h : spS V g e = -1) (hs : ¬ smM V g e) : spS V g (e + 1) = -1 := by
  unfold spS
  rw [if_neg (by omega), if_neg hs]
theorem backN_up {V : VV} {g : Int} {e : Nat} (h : backN V g e ≠ -9) : ∀ m : Nat, e ≤ m → backN V g m = backN V g e
  | 0, hm => by rw [show e = 0 by omega]
  | m + 1, hm => by
    by_cases hq : e = m + 1
    · rw [hq]
    · have ih := backN_up h m (by omega)
      show (if backN V g m = -9 then wseN V g m V.C.co.toNat else backN V g m) = _
      rw [if_neg (by rw [ih]; exact h)]
      exact ih
section SPITE
variable {l : Launch} {E : qEv} {n : Nat} {sh : qSh} {I L : qI} {R : qR}
theorem ct_twi {x : Nat} {V : VV} {o d w1 w2 w3 : Nat} (h : CI0 E.2.2 n sh x I L R V o d w1 w2 w3) (hp : 0 < V.T.ng) :
    Ct l E 1 mX4_become [.ref (x + 106), .ref (x + 30)] (n, sh, I, L, R) 0 0 (qV n sh (fun I' L' R' => L' = L ∧ R' = up R (x + 106) 0 o ∧ CI0 E.2.2 n sh x I' L R' V o d w1 w2 o ∧ (∀ b i, ¬ (x + 106 ≤ b ∧ b < x + 144) → I' b i = I b i) ∧ shC I' (x + 106) V.T V.C ∧ I' (x + 106) 8 = -1 ∧ ∀ g, 0 ≤ g → g < V.T.ng → I' (x + 106 + 17) g = V.la g)) := by
  obtain ⟨t1, t2, t3, t4, t5, t6, t7⟩ := h.full hp
  have hX := h.1
  have hng := h.2.2.1.ng
  have hot := h.otx
  have e7 := h.2.2.2.2.2.2.2.1.1.2.1
  have hnow : qTab E.2.2 n sh R (x + 30) o := by rw [← t4]; exact hX.t3
  refine (ct_X4_become hX.t5 hnow (by omega) (by omega) e7 (by omega)).mono ?_
  rintro v S' ⟨I', L', R', rfl, rfl, rfl, rfl, f1, f2, f3, f4, f5, f6, f7⟩
  have hse := t2.2.1
  have hfr : ∀ b i, ¬ (x + 106 ≤ b ∧ b < x + 144) → I' b i = I b i := fun b i q => f1 b i (by omega) (by omega) (by omega)
  have hRA : qRA E.2.2 n sh (up R (x + 106) 0 o) x o d w1 w2 o := hX.upW hX.o1
  refine ⟨I', _, _, rfl, rfl, rfl, rfl, h.scr hRA ⟨rfl, rfl, rfl, rfl, rfl, rfl, rfl⟩ (fun b i q1 q2 => hfr b i (by omega)) (by rw [hfr _ _ (by omega)]; exact h.2.2.2.1) (by rw [hfr _ _ (by omega)]; exact h.2.2.2.2.1) (by rw [hfr _ _ (by omega)]; exact h.2.2.2.2.2.1), hfr, ⟨f2.trans t5.1, f3.trans t5.2.1, f4.trans t5.2.2.1, fun s s0 s1 => ?_, fun g g0 g1 => ⟨?_, fun d d0 d1 => ?_⟩⟩, f5.trans t6, fun g g0 g1 => ?_⟩
  · rw [(f6 s s0 (by omega)).1]
    exact t5.2.2.2.1 s s0 s1
  · rw [(f6 g g0 (by omega)).2.1]
    exact (t5.2.2.2.2 g g0 g1).1
  · rw [f7 g g0 (by omega) d d0 (by omega)]
    exact (t5.2.2.2.2 g g0 g1).2 d d0 d1
  · rw [(f6 g g0 (by omega)).2.2]
    exact t7 g g0 g1
theorem ct_eveW {x : Nat} {V : VV} {o d w1 w2 : Nat} {C' : CC} {la : Int → Int} (h : CI0 E.2.2 n sh x I L R V o d w1 w2 o) (hT : V.T.ok) (hC' : C'.ok V.T) (hsC : shC I (x + 106) V.T C') (hla : ∀ g, 0 ≤ g → g < V.T.ng → I (x + 106 + 17) g = la g) (hLA : LAok V.T la) (hsp : I (x + 106) 8 = C'.sp) :
    Ct l E 3 mX4_evening [.ref (x + 106)] (n, sh, I, L, R) 0 0 (qV n sh (fun I' L' R' => L' = L ∧ R' = R ∧ CI0 E.2.2 n sh x I' L R V o d w1 w2 o ∧ (∀ b i, ¬ (x + 106 ≤ b ∧ b < x + 144) → I' b i = I b i) ∧ evP I I' (x + 106) V.T C' la)) := by
  have hot := h.otx
  refine (ct_X4_evening h.1.t5 (by omega) hT hC' h.2.2.2.2.2.2.2.1.1 hsC hla hLA hsp).mono ?_
  rintro v S' ⟨I', L', R', rfl, rfl, rfl, rfl, g1, g2⟩
  have fr : ∀ b i, ¬ (x + 106 ≤ b ∧ b < x + 144) → I' b i = I b i := fun b i q => g1 b i (by omega) (by omega) (by omega) (by omega)
  exact ⟨_, _, _, rfl, rfl, rfl, rfl, h.scr h.1 ⟨rfl, rfl, rfl, rfl, rfl, rfl, rfl⟩ (fun b i q1 q2 => fr b i (by omega)) (by rw [fr _ _ (by omega)]; exact h.2.2.2.1) (by rw [fr _ _ (by omega)]; exact h.2.2.2.2.1) (by rw [fr _ _ (by omega)]; exact h.2.2.2.2.2.1), fr, g1, g2⟩
theorem ct_X6_firstWorse {x : Nat} {V : VV} {o d w1 w2 w3 : Nat} {g : Int} {e : Nat} (h : CI0 E.2.2 n sh x I L R V o d w1 w2 w3) (hg : 0 ≤ g ∧ g < V.T.ng) (he : e < 200) (hA : ∀ c, 0 ≤ c → c < V.C.co → I (x + 68 + 28 + c.toNat) g = goA V g e c) (hB : ∀ c, 0 ≤ c → c < V.C.co → I (x + 106 + 28 + c.toNat) g = goB V g e c) :
    Ct l E 1 mX6_firstWorse [.ref x, .int (zI g), .int (zI (e : Int))] (n, sh, I, L, R) 0 0 (qP n sh I L R (fun v => v = wseN V g e V.C.co.toNat)) := by
  obtain ⟨t1, t2, t3, t4, t5, t6, t7⟩ := h.full (by omega)
  have hX := h.1
  have hng := h.2.2.1.ng
  have co1 := t2.1.2.2.2.2.1
  have co8 := t2.1.2.2.2.2.2.1
  have e7 : I (x + 30) 7 = V.C.co := t5.2.2.1
  have ew := (h.2.2.2.2.2.2.2.1.1.2.2.2 g hg.1 hg.2).2.2.2
  have tr : ∀ d', -9 ≤ d' → d' < V.T.nd → (if d' < 0 then 0 else I (o + 7 + g.toNat) d') = truly V.T g d' := fun d' d0 d1 => by
    unfold truly
    split
    · rfl
    · exact ew d' (by omega) d1
  have stop : ∀ c N : Nat, wseN V g e c = -9 → truly V.T g (goB V g e c) < truly V.T g (goA V g e c) → c < N → (N : Int) ≤ V.C.co → wseN V g e N = (e : Int) * V.C.co + c := by
    intro c N h1 h2
    have m2 : 0 ≤ (e : Int) * V.C.co := Int.mul_nonneg (by omega) (by omega)
    induction N with
    | zero => intro q; omega
    | succ N ih =>
      intro q1 q2
      by_cases hq : c = N
      · rw [← hq]
        unfold wseN
        rw [if_neg (by omega), if_pos h2]
      · have := ih (by omega) (by omega)
        unfold wseN
        rw [if_pos (by omega)]
        exact this
  have loop : ∀ c : Nat, c ≤ V.C.co.toNat → wseN V g e c = -9 → Wk l E (qmo E 1 n 0 0 (qP n sh I L R (fun v => v = wseN V g e V.C.co.toNat))) mX6_firstWorse 0 0 2
      [(0, .ref x), (1, .int (zI g)), (2, .int (zI (e : Int))), (3, .int (zI (c : Int)))] [] (n, sh, I, L, R) := by
    refine up_ind V.C.co.toNat ?_ ?_
    · intro hw
      refine wk_iload_n (i := 3) (q := 3) dX6_firstWorse_2 rfl rfl rfl ?_
      refine wk_aload_n (i := 0) (q := 4) dX6_firstWorse_3 rfl rfl rfl ?_
      refine wk_getR (fi := 3) (q := 7) dX6_firstWorse_4 rfl fl_X6_30 rfl rfl hX.ob hX.r3 ?_
      refine wk_getI (fi := 7) (q := 10) dX6_firstWorse_7 rfl fl_X6_142 rfl rfl hX.t3.1.ob ?_
      refine wk_icmp_ge (t := 72) (q := 13) dX6_firstWorse_10 rfl rfl (by omega) (by omega) (fun hc10 => ?_) (fun hc10 => ?_)
      · refine wk_bipush (q := 74) dX6_firstWorse_72 rfl (by decide +kernel) ?_
        refine wk_iret dX6_firstWorse_74 rfl ⟨Nat.le_refl _, Nat.le_refl _⟩ rfl ?_
        refine ⟨_, _, _, _, rfl, rfl, rfl, rfl, rfl, ?_⟩
        exact hw.symm
      · omega
    · intro c hc ih hw
      have a1 := hA c (by omega) (by omega)
      have a2 := hB c (by omega) (by omega)
      have b1 : -9 ≤ goA V g e c ∧ goA V g e c < V.T.nd := evE_go t1 _ _
      have b2 : -9 ≤ goB V g e c ∧ goB V g e c < V.T.nd := evE_go t1 _ _
      have c1 := truly_in t1 hg b1
      have c2 := truly_in t1 hg b2
      have m1 : (e : Int) * V.C.co ≤ (e : Int) * 8 := Int.mul_le_mul_of_nonneg_left co8 (by omega)
      have m2 : 0 ≤ (e : Int) * V.C.co := Int.mul_nonneg (by omega) (by omega)
      refine wk_iload_n (i := 3) (q := 3) dX6_firstWorse_2 rfl rfl rfl ?_
      refine wk_aload_n (i := 0) (q := 4) dX6_firstWorse_3 rfl rfl rfl ?_
      refine wk_getR (fi := 3) (q := 7) dX6_firstWorse_4 rfl fl_X6_30 rfl rfl hX.ob hX.r3 ?_
      refine wk_getI (fi := 7) (q := 10) dX6_firstWorse_7 rfl fl_X6_142 rfl rfl hX.t3.1.ob ?_
      refine wk_icmp_ge (t := 72) (q := 13) dX6_firstWorse_10 rfl rfl (by omega) (by omega) (fun hc10 => ?_) (fun hc10 => ?_)
      · omega
      · refine wk_aload_n (i := 0) (q := 14) dX6_firstWorse_13 rfl rfl rfl ?_
        refine wk_getR (fi := 1) (q := 17) dX6_firstWorse_14 rfl fl_X6_20 rfl rfl hX.ob hX.r1 ?_
        refine wk_iload_n (i := 1) (q := 18) dX6_firstWorse_17 rfl rfl rfl ?_
        refine wk_aload_n (i := 0) (q := 19) dX6_firstWorse_18 rfl rfl rfl ?_
        refine wk_getR (fi := 5) (q := 22) dX6_firstWorse_19 rfl fl_X6_37 rfl rfl hX.ob hX.r5 ?_
        refine wk_getR (fi := 10) (q := 25) dX6_firstWorse_22 rfl fl_X6_157 rfl rfl hX.t5.1.ob hX.t5.1.r10 ?_
        refine wk_iload_n (i := 3) (q := 26) dX6_firstWorse_25 rfl rfl rfl ?_
        refine wk_aald2 (q := 27) dX6_firstWorse_26 rfl hX.t5.1.s10 (by omega) (hX.t5.1.w10 (by omega)) ?_
        refine wk_iload_n (i := 1) (q := 28) dX6_firstWorse_27 rfl rfl rfl ?_
        refine wk_iald (q := 29) dX6_firstWorse_28 rfl (hX.t5.1.v10 (by omega)) (by omega) ?_
        rw [a2]
        refine wk_cP2 (q := 32) dX6_firstWorse_29 rfl vl_X6_294 ⟨_, _, rfl⟩ hX.o1.ob (ct_X5_truly hX.o1 (by omega) (by omega)) (qRo_m ok_X5_truly (by decide) (Nat.le_refl _) (Nat.le_refl _)) (Nat.le_of_ble_eq_true rfl) (fun v29 hv29 => ?_)
        rw [tr _ b2.1 b2.2] at hv29
        subst hv29
        refine wk_aload_n (i := 0) (q := 33) dX6_firstWorse_32 rfl rfl rfl ?_
        refine wk_getR (fi := 1) (q := 36) dX6_firstWorse_33 rfl fl_X6_20 rfl rfl hX.ob hX.r1 ?_
        refine wk_iload_n (i := 1) (q := 37) dX6_firstWorse_36 rfl rfl rfl ?_
        refine wk_aload_n (i := 0) (q := 38) dX6_firstWorse_37 rfl rfl rfl ?_
        refine wk_getR (fi := 4) (q := 41) dX6_firstWorse_38 rfl fl_X6_34 rfl rfl hX.ob hX.r4 ?_
        refine wk_getR (fi := 10) (q := 44) dX6_firstWorse_41 rfl fl_X6_157 rfl rfl hX.t4.1.ob hX.t4.1.r10 ?_
        refine wk_iload_n (i := 3) (q := 45) dX6_firstWorse_44 rfl rfl rfl ?_
        refine wk_aald2 (q := 46) dX6_firstWorse_45 rfl hX.t4.1.s10 (by omega) (hX.t4.1.w10 (by omega)) ?_
        refine wk_iload_n (i := 1) (q := 47) dX6_firstWorse_46 rfl rfl rfl ?_
        refine wk_iald (q := 48) dX6_firstWorse_47 rfl (hX.t4.1.v10 (by omega)) (by omega) ?_
        rw [a1]
        refine wk_cP2 (q := 51) dX6_firstWorse_48 rfl vl_X6_294 ⟨_, _, rfl⟩ hX.o1.ob (ct_X5_truly hX.o1 (by omega) (by omega)) (qRo_m ok_X5_truly (by decide) (Nat.le_refl _) (Nat.le_refl _)) (Nat.le_of_ble_eq_true rfl) (fun v48 hv48 => ?_)
        rw [tr _ b1.1 b1.2] at hv48
        subst hv48
        refine wk_icmp_ge (t := 66) (q := 54) dX6_firstWorse_51 rfl rfl (by omega) (by omega) (fun hc51 => ?_) (fun hc51 => ?_)
        · refine wk_iinc (lo' := [(0, _), (1, _), (2, _), (3, _)]) (q := 69) dX6_firstWorse_66 rfl rfl (by decide) rfl ?_
          refine wk_goto (t := 2) dX6_firstWorse_69 rfl ?_
          refine ih ?_
          unfold wseN
          rw [if_neg (by omega), if_neg (by omega)]
        · refine wk_iload_n (i := 2) (q := 55) dX6_firstWorse_54 rfl rfl rfl ?_
          refine wk_aload_n (i := 0) (q := 56) dX6_firstWorse_55 rfl rfl rfl ?_
          refine wk_getR (fi := 3) (q := 59) dX6_firstWorse_56 rfl fl_X6_30 rfl rfl hX.ob hX.r3 ?_
          refine wk_getI (fi := 7) (q := 62) dX6_firstWorse_59 rfl fl_X6_142 rfl rfl hX.t3.1.ob ?_
          rw [e7]
          refine wk_imul (q := 63) dX6_firstWorse_62 rfl ?_
          refine wk_iload_n (i := 3) (q := 64) dX6_firstWorse_63 rfl rfl rfl ?_
          refine wk_iadd (q := 65) dX6_firstWorse_64 rfl ?_
          refine wk_iret dX6_firstWorse_65 rfl ⟨Nat.le_refl _, Nat.le_refl _⟩ rfl ?_
          refine ⟨_, _, _, _, rfl, rfl, rfl, rfl, rfl, ?_⟩
          exact (stop c _ hw hc51 (by omega) (by omega)).symm
  refine Ct.of (lo := [(0, _), (1, _), (2, _)]) ok_X6_firstWorse (Nat.le_of_ble_eq_true rfl) rfl ?_
  have l0 := loop 0 (Nat.zero_le _) rfl
  refine wk_iconst (q := 1) dX6_firstWorse_0 rfl ?_
  refine wk_istore_n (i := 3) (lo' := [(0, _), (1, _), (2, _), (3, _)]) (q := 2) dX6_firstWorse_1 rfl rfl (by decide) rfl ?_
  exact l0
end SPITE
