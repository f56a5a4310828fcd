/-! SEATS, the reference goes through all rows -/
def ivS (I0 I1 : qI) (m : Nat) (V : VV) (B : Int × List Int) (pre : List Int) : Prop := MI I1 m V ∧ frO I0 I1 m 36 ∧ sbM I1 m V.T.ng B ∧ ∀ j : Nat, j < pre.length → I1 (m + 30) j = pre.getD j 0
theorem ivS.pm {I0 I1 : qI} {m : Nat} {V : VV} {B : Int × List Int} {pre : List Int} (h : ivS I0 I1 m V B pre) {a : Nat} (ha : pre.length ≤ a) (v : Int) : ivS I0 (up I1 (m + 30) a v) m V B pre :=
  ⟨h.1.sc (fun b i q => up_na _ _ _ _ (by omega)), fun b i q => by rw [up_na _ _ _ _ (by omega)]; exact h.2.1 b i q, h.2.2.1.cg (fun b i q => up_na _ _ _ _ (by omega)), fun j hj => by rw [up_ni _ _ (by omega)]; exact h.2.2.2 j hj⟩
theorem er_mem {ls : List Int} (h : ls.Pairwise (fun a b => a < b)) {a v : Int} : v ∈ ls.erase a ↔ v ≠ a ∧ v ∈ ls := by
  have nd : ls.Nodup := h.imp (fun q e => by omega)
  exact nd.mem_erase_iff
def prOk (N : Nat) (pre ls : List Int) : Prop := 1 ≤ pre.length ∧ pre.Nodup ∧ (∀ v ∈ pre, 0 ≤ v ∧ v < (N : Int)) ∧ 0 ∈ pre ∧ ls.Pairwise (fun a b => a < b) ∧ ∀ v, v ∈ ls ↔ 0 ≤ v ∧ v < (N : Int) ∧ v ∉ pre
theorem prOk.deep {N : Nat} {pre ls : List Int} {a : Int} (h : prOk N pre ls) (ha : a ∈ ls) : prOk N (pre ++ [a]) (ls.erase a) := by
  obtain ⟨h1, h2, h3, h4, h5, h6⟩ := h
  obtain ⟨a1, a2, a3⟩ := (h6 a).mp ha
  refine ⟨by rw [List.length_append]; omega, ?_, fun v hv => ?_, List.mem_append.mpr (Or.inl h4), h5.sublist List.erase_sublist, fun v => ?_⟩
  · refine List.nodup_append.mpr ⟨h2, List.nodup_cons.mpr ⟨List.not_mem_nil, List.nodup_nil⟩, fun x hx y hy e => ?_⟩
    rw [List.mem_singleton] at hy
    subst hy
    subst e
    exact a3 hx
  · rcases List.mem_append.mp hv with q | q
    · exact h3 v q
    · rw [List.mem_singleton] at q
      subst q
      exact ⟨a1, a2⟩
  · rw [er_mem h5, h6, List.mem_append, List.mem_singleton]
    constructor
    · rintro ⟨q1, q2, q3, q4⟩
      exact ⟨q2, q3, fun z => z.elim q4 q1⟩
    · rintro ⟨q1, q2, q3⟩
      exact ⟨fun z => q3 (Or.inr z), q1, q2, fun z => q3 (Or.inl z)⟩
def sLv (P : Nat → Int → qI → Prop) (I : qI) (m N : Nat) (V : VV) (aim : Int) (mm : Nat) : Prop :=
  ∀ (pre ls : List Int), pre.length + mm + 1 = N → prOk N pre ls → ∀ (S X : List Int) (c : Int), ls = X ++ S → 0 ≤ c → c < N → (∀ v ∈ X, v ≤ c) → (∀ v ∈ S, c < v) → ∀ (B : Int × List Int) (I1 : qI), ivS I I1 m V B pre → I1 (m + 30) ((pre.length : Nat) : Int) = c → (∀ I2 : qI, ivS I I2 m V ((subL mm pre ls S).foldl (seatStep V.T V.C aim) B) pre → P 21 (((pre.length : Nat) : Int) + -1) I2) → P 21 ((pre.length : Nat) : Int) I1
def sVs (P : Nat → Int → qI → Prop) (I : qI) (m N : Nat) (V : VV) (aim : Int) (mm : Nat) : Prop :=
  ∀ (pre ls : List Int) (a : Int), pre.length + mm + 1 = N → prOk N pre ls → a ∈ ls → ∀ (B : Int × List Int) (I1 : qI), ivS I I1 m V B pre → I1 (m + 30) ((pre.length : Nat) : Int) = a → (∀ I2 : qI, ivS I I2 m V (((permsL mm (ls.erase a)).map (fun r => pre ++ a :: r)).foldl (seatStep V.T V.C aim) B) pre → I2 (m + 30) ((pre.length : Nat) : Int) = a → P 21 ((pre.length : Nat) : Int) I2) → P 94 ((pre.length : Nat) : Int) I1
section SEATS6
variable {l : Launch} {E : qEv} {n : Nat} {sh : qSh} {I L : qI} {R : qR}
theorem ct_X7_findSeats {m : Nat} {V : VV} {aim : Int} (hM : qMod E.2.2 n sh R m) (h : MI I m V) (hp : 0 < V.T.ng) (ha : aim = 0 ∨ aim = 1) :
    Ct l E 6 mX7_findSeats [.ref m, .int (zI aim)] (n, sh, I, L, R) 0 0 (qV n sh (fun I' L' R' => L' = L ∧ R' = R ∧ MI I' m V ∧ frO I I' m 36 ∧ I' m 42 = (seatBest V.T V.C aim).1 ∧ ∀ s : Int, 0 ≤ s → s < V.T.ng → I' (m + 28) s = rowF (seatBest V.T V.C aim).2 s)) := by
  obtain ⟨t1, t2, t3⟩ := h.1.tab hp
  have hng := t1.2.1
  have hng0 := t1.1
  obtain ⟨N, hN⟩ : ∃ N : Nat, V.T.ng = (N : Int) := ⟨V.T.ng.toNat, by omega⟩
  have hNt : V.T.ng.toNat = N := by omega
  have nx : ∀ pre : List Int, pre.length < N → (∀ v ∈ pre, 0 ≤ v ∧ v < (N : Int)) → ∀ (B : Int × List Int) (c tgt : Int), 0 ≤ c → tgt ≤ N → (∀ v, c < v → v < tgt → v ∈ pre) → (tgt = N ∨ tgt ∉ pre) → (∀ I2 : qI, ivS I I2 m V B pre → I2 (m + 30) ((pre.length : Nat) : Int) = tgt → Wk l E (qmo E 6 n 0 0 (qV n sh (fun I' L' R' => L' = L ∧ R' = R ∧ MI I' m V ∧ frO I I' m 36 ∧ I' m 42 = (seatBest V.T V.C aim).1 ∧ ∀ s : Int, 0 ≤ s → s < V.T.ng → I' (m + 28) s = rowF (seatBest V.T V.C aim).2 s))) mX7_findSeats 0 0 75 [(0, .ref m), (1, .int (zI aim)), (2, .int (zI ((pre.length : Nat) : Int)))] [] (n, sh, I2, L, R)) → ∀ (j : Nat) (c' : Int), c' + j = tgt → c < c' → ∀ I2 : qI, ivS I I2 m V B pre → I2 (m + 30) ((pre.length : Nat) : Int) = c' → Wk l E (qmo E 6 n 0 0 (qV n sh (fun I' L' R' => L' = L ∧ R' = R ∧ MI I' m V ∧ frO I I' m 36 ∧ I' m 42 = (seatBest V.T V.C aim).1 ∧ ∀ s : Int, 0 ≤ s → s < V.T.ng → I' (m + 28) s = rowF (seatBest V.T V.C aim).2 s))) mX7_findSeats 0 0 35 [(0, .ref m), (1, .int (zI aim)), (2, .int (zI ((pre.length : Nat) : Int)))] [] (n, sh, I2, L, R) := by
    intro pre hl hrg B c tgt c0 htN hgap htp K j
    induction j with
    | zero =>
      intro c' hj hc I2 hi hc2
      have e5 := hi.1.2.2.2.2.2.1.1
      have et : c' = tgt := by omega
      have K' := K I2 hi (by omega)
      refine wk_aload_n (i := 0) (q := 36) dX7_findSeats_35 rfl rfl rfl ?_
      refine wk_getR (fi := 43) (q := 39) dX7_findSeats_36 rfl fl_X7_97 rfl rfl hM.ob hM.r43 ?_
      refine wk_iload_n (i := 2) (q := 40) dX7_findSeats_39 rfl rfl rfl ?_
      refine wk_iald (q := 41) dX7_findSeats_40 rfl hM.s43 (by omega) ?_
      refine wk_aload_n (i := 0) (q := 42) dX7_findSeats_41 rfl rfl rfl ?_
      refine wk_getI (fi := 5) (q := 45) dX7_findSeats_42 rfl fl_X7_125 rfl rfl hM.ob ?_
      refine wk_icmp_ge (t := 75) (q := 48) dX7_findSeats_45 rfl rfl (by omega) (by omega) (fun hc45 => ?_) (fun hc45 => ?_)
      · exact K'
      · refine wk_aload_n (i := 0) (q := 49) dX7_findSeats_48 rfl rfl rfl ?_
        refine wk_aload_n (i := 0) (q := 50) dX7_findSeats_49 rfl rfl rfl ?_
        refine wk_getR (fi := 43) (q := 53) dX7_findSeats_50 rfl fl_X7_97 rfl rfl hM.ob hM.r43 ?_
        refine wk_iload_n (i := 2) (q := 54) dX7_findSeats_53 rfl rfl rfl ?_
        refine wk_iald (q := 55) dX7_findSeats_54 rfl hM.s43 (by omega) ?_
        refine wk_iload_n (i := 2) (q := 56) dX7_findSeats_55 rfl rfl rfl ?_
        rw [hc2]
        refine wk_cP2 (q := 59) dX7_findSeats_56 rfl vl_X7_263 ⟨_, _, rfl⟩ hM.ob (ct_X7_isInPerm hM (by omega) hi.2.2.2 (fun v hv => by have := hrg v hv; omega) (by omega)) (qRo_m ok_X7_isInPerm (by decide) (Nat.le_refl _) (Nat.le_refl _)) (Nat.le_of_ble_eq_true rfl) (fun v56 hv56 => ?_)
        rcases hv56 with ⟨rfl, hv56⟩ | ⟨rfl, hv56⟩
        · refine wk_if_eq (t := 75) (q := 62) dX7_findSeats_59 rfl rfl (by omega) (fun hq => absurd hq (by decide)) (fun _ => ?_)
          exfalso
          rw [et] at hv56
          rcases htp with q | q
          · omega
          · exact q hv56
        · refine wk_if_eq (t := 75) (q := 62) dX7_findSeats_59 rfl rfl (by omega) (fun _ => ?_) (fun hq => absurd hq (by decide))
          exact K'
    | succ j ih =>
      intro c' hj hc I2 hi hc2
      have e5 := hi.1.2.2.2.2.2.1.1
      have hin := hgap c' hc (by omega)
      refine wk_aload_n (i := 0) (q := 36) dX7_findSeats_35 rfl rfl rfl ?_
      refine wk_getR (fi := 43) (q := 39) dX7_findSeats_36 rfl fl_X7_97 rfl rfl hM.ob hM.r43 ?_
      refine wk_iload_n (i := 2) (q := 40) dX7_findSeats_39 rfl rfl rfl ?_
      refine wk_iald (q := 41) dX7_findSeats_40 rfl hM.s43 (by omega) ?_
      refine wk_aload_n (i := 0) (q := 42) dX7_findSeats_41 rfl rfl rfl ?_
      refine wk_getI (fi := 5) (q := 45) dX7_findSeats_42 rfl fl_X7_125 rfl rfl hM.ob ?_
      refine wk_icmp_ge (t := 75) (q := 48) dX7_findSeats_45 rfl rfl (by omega) (by omega) (fun hc45 => ?_) (fun hc45 => ?_)
      · first
        | omega
        | exact absurd hin hv56
      · refine wk_aload_n (i := 0) (q := 49) dX7_findSeats_48 rfl rfl rfl ?_
        refine wk_aload_n (i := 0) (q := 50) dX7_findSeats_49 rfl rfl rfl ?_
        refine wk_getR (fi := 43) (q := 53) dX7_findSeats_50 rfl fl_X7_97 rfl rfl hM.ob hM.r43 ?_
        refine wk_iload_n (i := 2) (q := 54) dX7_findSeats_53 rfl rfl rfl ?_
        refine wk_iald (q := 55) dX7_findSeats_54 rfl hM.s43 (by omega) ?_
        refine wk_iload_n (i := 2) (q := 56) dX7_findSeats_55 rfl rfl rfl ?_
        rw [hc2]
        refine wk_cP2 (q := 59) dX7_findSeats_56 rfl vl_X7_263 ⟨_, _, rfl⟩ hM.ob (ct_X7_isInPerm hM (by omega) hi.2.2.2 (fun v hv => by have := hrg v hv; omega) (by omega)) (qRo_m ok_X7_isInPerm (by decide) (Nat.le_refl _) (Nat.le_refl _)) (Nat.le_of_ble_eq_true rfl) (fun v56 hv56 => ?_)
        rcases hv56 with ⟨rfl, hv56⟩ | ⟨rfl, hv56⟩
        · refine wk_if_eq (t := 75) (q := 62) dX7_findSeats_59 rfl rfl (by omega) (fun hq => absurd hq (by decide)) (fun _ => ?_)
          refine wk_aload_n (i := 0) (q := 63) dX7_findSeats_62 rfl rfl rfl ?_
          refine wk_getR (fi := 43) (q := 66) dX7_findSeats_63 rfl fl_X7_97 rfl rfl hM.ob hM.r43 ?_
          refine wk_iload_n (i := 2) (q := 67) dX7_findSeats_66 rfl rfl rfl ?_
          refine wk_dup2 (q := 68) dX7_findSeats_67 rfl rfl rfl ?_
          refine wk_iald (q := 69) dX7_findSeats_68 rfl hM.s43 (by omega) ?_
          refine wk_iconst (q := 70) dX7_findSeats_69 rfl ?_
          refine wk_iadd (q := 71) dX7_findSeats_70 rfl ?_
          refine wk_iast (q := 72) dX7_findSeats_71 rfl hM.s43 (by omega) ?_
          refine wk_goto (t := 35) dX7_findSeats_72 rfl ?_
          exact ih (c' + 1) (by omega) (by omega) _ (hi.pm (Nat.le_refl _) _) (by rw [up_eq, hc2])
        · refine wk_if_eq (t := 75) (q := 62) dX7_findSeats_59 rfl rfl (by omega) (fun _ => ?_) (fun hq => absurd hq (by decide))
          first
          | omega
          | exact absurd hin hv56
  have lvl : ∀ mm : Nat, sVs (fun pc pl I1 => Wk l E (qmo E 6 n 0 0 (qV n sh (fun I' L' R' => L' = L ∧ R' = R ∧ MI I' m V ∧ frO I I' m 36 ∧ I' m 42 = (seatBest V.T V.C aim).1 ∧ ∀ s : Int, 0 ≤ s → s < V.T.ng → I' (m + 28) s = rowF (seatBest V.T V.C aim).2 s))) mX7_findSeats 0 0 pc [(0, .ref m), (1, .int (zI aim)), (2, .int (zI pl))] [] (n, sh, I1, L, R)) I m N V aim mm → sLv (fun pc pl I1 => Wk l E (qmo E 6 n 0 0 (qV n sh (fun I' L' R' => L' = L ∧ R' = R ∧ MI I' m V ∧ frO I I' m 36 ∧ I' m 42 = (seatBest V.T V.C aim).1 ∧ ∀ s : Int, 0 ≤ s → s < V.T.ng → I' (m + 28) s = rowF (seatBest V.T V.C aim).2 s))) mX7_findSeats 0 0 pc [(0, .ref m), (1, .int (zI aim)), (2, .int (zI pl))] [] (n, sh, I1, L, R)) I m N V aim mm := by
    intro mm hv pre ls hlen hok S
    have hlN : pre.length < N := by omega
    obtain ⟨h1, h2, h3, h4, h5, h6⟩ := id hok
    induction S with
    | nil =>
      intro X c hX c0 c1 hx hs B I1 hi hc K
      dsimp only at K ⊢
      have pop : ∀ I2 : qI, ivS I I2 m V B pre → I2 (m + 30) ((pre.length : Nat) : Int) = (N : Int) → Wk l E (qmo E 6 n 0 0 (qV n sh (fun I' L' R' => L' = L ∧ R' = R ∧ MI I' m V ∧ frO I I' m 36 ∧ I' m 42 = (seatBest V.T V.C aim).1 ∧ ∀ s : Int, 0 ≤ s → s < V.T.ng → I' (m + 28) s = rowF (seatBest V.T V.C aim).2 s))) mX7_findSeats 0 0 75 [(0, .ref m), (1, .int (zI aim)), (2, .int (zI ((pre.length : Nat) : Int)))] [] (n, sh, I2, L, R) := by
        intro I2 hi2 hc2
        have e5 := hi2.1.2.2.2.2.2.1.1
        refine wk_aload_n (i := 0) (q := 76) dX7_findSeats_75 rfl rfl rfl ?_
        refine wk_getR (fi := 43) (q := 79) dX7_findSeats_76 rfl fl_X7_97 rfl rfl hM.ob hM.r43 ?_
        refine wk_iload_n (i := 2) (q := 80) dX7_findSeats_79 rfl rfl rfl ?_
        refine wk_iald (q := 81) dX7_findSeats_80 rfl hM.s43 (by omega) ?_
        refine wk_aload_n (i := 0) (q := 82) dX7_findSeats_81 rfl rfl rfl ?_
        refine wk_getI (fi := 5) (q := 85) dX7_findSeats_82 rfl fl_X7_125 rfl rfl hM.ob ?_
        refine wk_icmp_lt (t := 94) (q := 88) dX7_findSeats_85 rfl rfl (by omega) (by omega) (fun hc85 => ?_) (fun hc85 => ?_)
        · omega
        · refine wk_iinc (lo' := [(0, _), (1, _), (2, _)]) (q := 91) dX7_findSeats_88 rfl rfl (by decide) rfl ?_
          refine wk_goto (t := 21) dX7_findSeats_91 rfl ?_
          exact K I2 hi2
      refine wk_iload_n (i := 2) (q := 22) dX7_findSeats_21 rfl rfl rfl ?_
      refine wk_if_le (t := 125) (q := 25) dX7_findSeats_22 rfl rfl (by omega) (fun hc22 => ?_) (fun hc22 => ?_)
      · omega
      · refine wk_aload_n (i := 0) (q := 26) dX7_findSeats_25 rfl rfl rfl ?_
        refine wk_getR (fi := 43) (q := 29) dX7_findSeats_26 rfl fl_X7_97 rfl rfl hM.ob hM.r43 ?_
        refine wk_iload_n (i := 2) (q := 30) dX7_findSeats_29 rfl rfl rfl ?_
        refine wk_dup2 (q := 31) dX7_findSeats_30 rfl rfl rfl ?_
        refine wk_iald (q := 32) dX7_findSeats_31 rfl hM.s43 (by omega) ?_
        refine wk_iconst (q := 33) dX7_findSeats_32 rfl ?_
        refine wk_iadd (q := 34) dX7_findSeats_33 rfl ?_
        refine wk_iast (q := 35) dX7_findSeats_34 rfl hM.s43 (by omega) ?_
        rw [hc]
        refine nx pre hlN h3 B c N c0 (Int.le_refl _) (fun v v1 v2 => ?_) (Or.inl rfl) pop ((N : Int) - (c + 1)).toNat (c + 1) (by omega) (by omega) _ (hi.pm (Nat.le_refl _) _) (up_eq _ _ _ _)
        by_cases q : v ∈ pre
        · exact q
        · exfalso
          have z := (h6 v).mpr ⟨by omega, v2, q⟩
          rw [hX, List.append_nil] at z
          have := hx v z
          omega
    | cons a S ih =>
      intro X c hX c0 c1 hx hs B I1 hi hc K
      dsimp only at K ⊢
      have hal : a ∈ ls := by rw [hX]; exact List.mem_append.mpr (Or.inr List.mem_cons_self)
      obtain ⟨a1, a2, a3⟩ := (h6 a).mp hal
      have hca := hs a List.mem_cons_self
      have hS : ∀ v ∈ S, a < v := by
        rw [hX] at h5
        exact (List.pairwise_cons.mp (List.pairwise_append.mp h5).2.1).1
      have vis : ∀ I2 : qI, ivS I I2 m V B pre → I2 (m + 30) ((pre.length : Nat) : Int) = a → Wk l E (qmo E 6 n 0 0 (qV n sh (fun I' L' R' => L' = L ∧ R' = R ∧ MI I' m V ∧ frO I I' m 36 ∧ I' m 42 = (seatBest V.T V.C aim).1 ∧ ∀ s : Int, 0 ≤ s → s < V.T.ng → I' (m + 28) s = rowF (seatBest V.T V.C aim).2 s))) mX7_findSeats 0 0 75 [(0, .ref m), (1, .int (zI aim)), (2, .int (zI ((pre.length : Nat) : Int)))] [] (n, sh, I2, L, R) := by
        intro I2 hi2 hc2
        have e5 := hi2.1.2.2.2.2.2.1.1
        have go := hv pre ls a hlen hok hal B I2 hi2 hc2 (fun I3 hi3 hc3 => ih (X ++ [a]) a (by rw [hX, List.append_assoc]; rfl) a1 a2 (fun v hv => by
            rcases List.mem_append.mp hv with q | q
            · have := hx v q
              omega
            · rw [List.mem_singleton] at q
              omega) hS _ I3 hi3 hc3 (fun I4 hi4 => K I4 (by rw [subL_cons, List.foldl_append]; exact hi4)))
        dsimp only at go
        refine wk_aload_n (i := 0) (q := 76) dX7_findSeats_75 rfl rfl rfl ?_
        refine wk_getR (fi := 43) (q := 79) dX7_findSeats_76 rfl fl_X7_97 rfl rfl hM.ob hM.r43 ?_
        refine wk_iload_n (i := 2) (q := 80) dX7_findSeats_79 rfl rfl rfl ?_
        refine wk_iald (q := 81) dX7_findSeats_80 rfl hM.s43 (by omega) ?_
        refine wk_aload_n (i := 0) (q := 82) dX7_findSeats_81 rfl rfl rfl ?_
        refine wk_getI (fi := 5) (q := 85) dX7_findSeats_82 rfl fl_X7_125 rfl rfl hM.ob ?_
        refine wk_icmp_lt (t := 94) (q := 88) dX7_findSeats_85 rfl rfl (by omega) (by omega) (fun hc85 => ?_) (fun hc85 => ?_)
        · exact go
        · omega
      refine wk_iload_n (i := 2) (q := 22) dX7_findSeats_21 rfl rfl rfl ?_
      refine wk_if_le (t := 125) (q := 25) dX7_findSeats_22 rfl rfl (by omega) (fun hc22 => ?_) (fun hc22 => ?_)
      · omega
      · refine wk_aload_n (i := 0) (q := 26) dX7_findSeats_25 rfl rfl rfl ?_
        refine wk_getR (fi := 43) (q := 29) dX7_findSeats_26 rfl fl_X7_97 rfl rfl hM.ob hM.r43 ?_
        refine wk_iload_n (i := 2) (q := 30) dX7_findSeats_29 rfl rfl rfl ?_
        refine wk_dup2 (q := 31) dX7_findSeats_30 rfl rfl rfl ?_
        refine wk_iald (q := 32) dX7_findSeats_31 rfl hM.s43 (by omega) ?_
        refine wk_iconst (q := 33) dX7_findSeats_32 rfl ?_
        refine wk_iadd (q := 34) dX7_findSeats_33 rfl ?_
        refine wk_iast (q := 35) dX7_findSeats_34 rfl hM.s43 (by omega) ?_
        rw [hc]
        refine nx pre hlN h3 B c a c0 (by omega) (fun v v1 v2 => ?_) (Or.inr a3) vis (a - (c + 1)).toNat (c + 1) (by omega) (by omega) _ (hi.pm (Nat.le_refl _) _) (up_eq _ _ _ _)
        by_cases q : v ∈ pre
        · exact q
        · exfalso
          have z := (h6 v).mpr ⟨by omega, by omega, q⟩
          rw [hX] at z
          rcases List.mem_append.mp z with y | y
          · have := hx v y
            omega
          · rcases List.mem_cons.mp y with w | w
            · omega
            · have := hS v w
              omega
  have v0 : sVs (fun pc pl I1 => Wk l E (qmo E 6 n 0 0 (qV n sh (fun I' L' R' => L' = L ∧ R' = R ∧ MI I' m V ∧ frO I I' m 36 ∧ I' m 42 = (seatBest V.T V.C aim).1 ∧ ∀ s : Int, 0 ≤ s → s < V.T.ng → I' (m + 28) s = rowF (seatBest V.T V.C aim).2 s))) mX7_findSeats 0 0 pc [(0, .ref m), (1, .int (zI aim)), (2, .int (zI pl))] [] (n, sh, I1, L, R)) I m N V aim 0 := by
    intro pre ls a hlen hok hal B I1 hi hc K
    obtain ⟨h1, h2, h3, h4, h5, h6⟩ := hok.deep hal
    have hl : (pre ++ [a]).length = N := by rw [List.length_append]; exact hlen
    have hpk : pok V.T.ng.toNat (pre ++ [a]) := by
      rw [hNt]
      exact pok_nd hl h2 h3
    have hpm : ∀ s : Int, 0 ≤ s → s < V.T.ng → I1 (m + 30) s = rowF (pre ++ [a]) s := fun s s0 s1 => by
      obtain ⟨j, rfl⟩ := Int.eq_ofNat_of_zero_le s0
      unfold rowF
      rw [Int.toNat_natCast]
      by_cases q : j < pre.length
      · rw [gd_l q]
        exact hi.2.2.2 j q
      · have e : j = pre.length := by omega
        subst e
        rw [gd_r]
        exact hc
    have e5 := hi.1.2.2.2.2.2.1.1
    dsimp only at K ⊢
    refine wk_iload_n (i := 2) (q := 95) dX7_findSeats_94 rfl rfl rfl ?_
    refine wk_aload_n (i := 0) (q := 96) dX7_findSeats_95 rfl rfl rfl ?_
    refine wk_getI (fi := 5) (q := 99) dX7_findSeats_96 rfl fl_X7_125 rfl rfl hM.ob ?_
    refine wk_iconst (q := 100) dX7_findSeats_99 rfl ?_
    refine wk_isub (q := 101) dX7_findSeats_100 rfl ?_
    refine wk_icmp_ne (t := 112) (q := 104) dX7_findSeats_101 rfl rfl (by omega) (by omega) (fun hc101 => ?_) (fun hc101 => ?_)
    · omega
    · refine wk_aload_n (i := 0) (q := 105) dX7_findSeats_104 rfl rfl rfl ?_
      refine wk_iload_n (i := 1) (q := 106) dX7_findSeats_105 rfl rfl rfl ?_
      refine wk_cV1 (q := 109) dX7_findSeats_106 rfl vl_X7_266 ⟨_, _, rfl⟩ hM.ob (ct_X7_trySeats hM hi.1 hp ha hpk hpm hi.2.2.1) (qRo_m ok_X7_trySeats (by decide) (Nat.le_refl _) (Nat.le_refl _)) (Nat.le_of_ble_eq_true rfl) (fun I106 L106 R106 hv106 => ?_)
      obtain ⟨rfl, rfl, g1, g2, g3, g4⟩ := hv106
      refine wk_goto (t := 21) dX7_findSeats_109 rfl ?_
      exact K I106 ⟨g1, hi.2.1.tr g2, g4, fun j hj => (g3 _).trans (hi.2.2.2 j hj)⟩ ((g3 _).trans hc)
  have vs : ∀ mm : Nat, sLv (fun pc pl I1 => Wk l E (qmo E 6 n 0 0 (qV n sh (fun I' L' R' => L' = L ∧ R' = R ∧ MI I' m V ∧ frO I I' m 36 ∧ I' m 42 = (seatBest V.T V.C aim).1 ∧ ∀ s : Int, 0 ≤ s → s < V.T.ng → I' (m + 28) s = rowF (seatBest V.T V.C aim).2 s))) mX7_findSeats 0 0 pc [(0, .ref m), (1, .int (zI aim)), (2, .int (zI pl))] [] (n, sh, I1, L, R)) I m N V aim mm → sVs (fun pc pl I1 => Wk l E (qmo E 6 n 0 0 (qV n sh (fun I' L' R' => L' = L ∧ R' = R ∧ MI I' m V ∧ frO I I' m 36 ∧ I' m 42 = (seatBest V.T V.C aim).1 ∧ ∀ s : Int, 0 ≤ s → s < V.T.ng → I' (m + 28) s = rowF (seatBest V.T V.C aim).2 s))) mX7_findSeats 0 0 pc [(0, .ref m), (1, .int (zI aim)), (2, .int (zI pl))] [] (n, sh, I1, L, R)) I m N V aim (mm + 1) := by
    intro mm hL pre ls a hlen hok hal B I1 hi hc K
    have hl : (pre ++ [a]).length = pre.length + 1 := by rw [List.length_append]; rfl
    have hd := hok.deep hal
    have e5 := hi.1.2.2.2.2.2.1.1
    have go := hL (pre ++ [a]) (ls.erase a) (by omega) hd (ls.erase a) [] 0 rfl (by omega) (by omega) (fun v q => by cases q) (fun v q => by
        obtain ⟨z1, z2, z3⟩ := (hd.2.2.2.2.2 v).mp q
        by_cases y : v = 0
        · rw [y] at z3
          exact absurd hd.2.2.2.1 z3
        · omega) B (up I1 (m + 30) ((pre.length + 1 : Nat) : Int) 0) ⟨(hi.pm (show pre.length ≤ pre.length + 1 by omega) 0).1, (hi.pm (show pre.length ≤ pre.length + 1 by omega) 0).2.1, (hi.pm (show pre.length ≤ pre.length + 1 by omega) 0).2.2.1, fun j hj => by
          rw [up_ni _ _ (by omega)]
          by_cases q : j < pre.length
          · rw [gd_l q]
            exact hi.2.2.2 j q
          · have e : j = pre.length := by omega
            subst e
            rw [gd_r]
            exact hc⟩ (by rw [hl]; exact up_eq _ _ _ _) (fun I2 hi2 => by
          rw [hl, show ((pre.length + 1 : Nat) : Int) + -1 = ((pre.length : Nat) : Int) by omega]
          refine K I2 ⟨hi2.1, hi2.2.1, ?_, fun j hj => ?_⟩ ?_
          · rw [subL_deep]
            exact hi2.2.2.1
          · rw [hi2.2.2.2 j (by omega), gd_l hj]
          · rw [hi2.2.2.2 pre.length (by omega), gd_r])
    rw [hl] at go
    dsimp only at K go ⊢
    refine wk_iload_n (i := 2) (q := 95) dX7_findSeats_94 rfl rfl rfl ?_
    refine wk_aload_n (i := 0) (q := 96) dX7_findSeats_95 rfl rfl rfl ?_
    refine wk_getI (fi := 5) (q := 99) dX7_findSeats_96 rfl fl_X7_125 rfl rfl hM.ob ?_
    refine wk_iconst (q := 100) dX7_findSeats_99 rfl ?_
    refine wk_isub (q := 101) dX7_findSeats_100 rfl ?_
    refine wk_icmp_ne (t := 112) (q := 104) dX7_findSeats_101 rfl rfl (by omega) (by omega) (fun hc101 => ?_) (fun hc101 => ?_)
    · refine wk_iinc (lo' := [(0, _), (1, _), (2, _)]) (q := 115) dX7_findSeats_112 rfl rfl (by decide) rfl ?_
      refine wk_aload_n (i := 0) (q := 116) dX7_findSeats_115 rfl rfl rfl ?_
      refine wk_getR (fi := 43) (q := 119) dX7_findSeats_116 rfl fl_X7_97 rfl rfl hM.ob hM.r43 ?_
      refine wk_iload_n (i := 2) (q := 120) dX7_findSeats_119 rfl rfl rfl ?_
      refine wk_iconst (q := 121) dX7_findSeats_120 rfl ?_
      refine wk_iast (q := 122) dX7_findSeats_121 rfl hM.s43 (by omega) ?_
      refine wk_goto (t := 21) dX7_findSeats_122 rfl ?_
      exact go
    · omega
  have all : ∀ mm : Nat, sLv (fun pc pl I1 => Wk l E (qmo E 6 n 0 0 (qV n sh (fun I' L' R' => L' = L ∧ R' = R ∧ MI I' m V ∧ frO I I' m 36 ∧ I' m 42 = (seatBest V.T V.C aim).1 ∧ ∀ s : Int, 0 ≤ s → s < V.T.ng → I' (m + 28) s = rowF (seatBest V.T V.C aim).2 s))) mX7_findSeats 0 0 pc [(0, .ref m), (1, .int (zI aim)), (2, .int (zI pl))] [] (n, sh, I1, L, R)) I m N V aim mm := by
    intro mm
    induction mm with
    | zero => exact lvl 0 v0
    | succ mm ih => exact lvl (mm + 1) (vs mm ih)
  have done : ∀ I2 : qI, ivS I I2 m V (seatBest V.T V.C aim) [0] → Wk l E (qmo E 6 n 0 0 (qV n sh (fun I' L' R' => L' = L ∧ R' = R ∧ MI I' m V ∧ frO I I' m 36 ∧ I' m 42 = (seatBest V.T V.C aim).1 ∧ ∀ s : Int, 0 ≤ s → s < V.T.ng → I' (m + 28) s = rowF (seatBest V.T V.C aim).2 s))) mX7_findSeats 0 0 21 [(0, .ref m), (1, .int (zI aim)), (2, .int (zI ((0 : Nat) : Int)))] [] (n, sh, I2, L, R) := by
    intro I2 hi
    have hb := seatBest_in t1 t2 aim
    obtain ⟨g1, g2, g3⟩ := hi.2.2.1
    refine wk_iload_n (i := 2) (q := 22) dX7_findSeats_21 rfl rfl rfl ?_
    refine wk_if_le (t := 125) (q := 25) dX7_findSeats_22 rfl rfl (by omega) (fun hc22 => ?_) (fun hc22 => ?_)
    · refine wk_ret dX7_findSeats_125 rfl ⟨Nat.le_refl _, Nat.le_refl _⟩ rfl ?_
      refine ⟨_, _, _, rfl, rfl, rfl, rfl, hi.1, hi.2.1, g1, ?_⟩
      rcases g3 with y | y
      · omega
      · exact y
    · omega
  refine Ct.of (lo := [(0, _), (1, _)]) ok_X7_findSeats (Nat.le_of_ble_eq_true rfl) rfl ?_
  refine wk_aload_n (i := 0) (q := 1) dX7_findSeats_0 rfl rfl rfl ?_
  refine wk_iconst (q := 2) dX7_findSeats_1 rfl ?_
  refine wk_putI (fi := 42) (q := 5) dX7_findSeats_2 rfl fl_X7_244 fw_7_42 rfl rfl hM.ob ?_
  refine wk_aload_n (i := 0) (q := 6) dX7_findSeats_5 rfl rfl rfl ?_
  refine wk_getR (fi := 43) (q := 9) dX7_findSeats_6 rfl fl_X7_97 rfl rfl hM.ob hM.r43 ?_
  refine wk_iconst (q := 10) dX7_findSeats_9 rfl ?_
  refine wk_iconst (q := 11) dX7_findSeats_10 rfl ?_
  refine wk_iast (q := 12) dX7_findSeats_11 rfl hM.s43 (by omega) ?_
  refine wk_iconst (q := 13) dX7_findSeats_12 rfl ?_
  refine wk_istore_n (i := 2) (lo' := [(0, _), (1, _), (2, _)]) (q := 14) dX7_findSeats_13 rfl rfl (by decide) rfl ?_
  refine wk_aload_n (i := 0) (q := 15) dX7_findSeats_14 rfl rfl rfl ?_
  refine wk_getR (fi := 43) (q := 18) dX7_findSeats_15 rfl fl_X7_97 rfl rfl hM.ob hM.r43 ?_
  refine wk_iconst (q := 19) dX7_findSeats_18 rfl ?_
  refine wk_iconst (q := 20) dX7_findSeats_19 rfl ?_
  refine wk_iast (q := 21) dX7_findSeats_20 rfl hM.s43 (by omega) ?_
  have hrow := rowsN_sub (n := N) (by omega)
  have iv0 : ivS I (up (up I m 42 (-1)) (m + 30) 0 0) m V (-1, []) [0] := ⟨h.sc (fun b i q => by rw [up_na _ _ _ _ (by omega), up_off (by omega)]), fun b i q => by rw [up_na _ _ _ _ (by omega), up_off (by omega)], ⟨by rw [up_na _ _ _ _ (by omega), up_eq], (by show (-1 : Int) ≤ -1 ∧ (-1 : Int) ≤ 9576; decide), Or.inl rfl⟩, fun j hj => by
    have e : j = 0 := by
      have : j < 1 := hj
      omega
    subst e
    exact up_eq _ _ _ _⟩
  have go := all (N - 2) [0] ((List.range (N - 1)).map (fun k : Nat => (k : Int) + 1)) (by show 1 + (N - 2) + 1 = N; omega) ⟨Nat.le_refl 1, List.nodup_cons.mpr ⟨List.not_mem_nil, List.nodup_nil⟩, fun v hv => by rw [List.mem_singleton] at hv; omega, List.mem_cons_self, ?_, fun v => ?_⟩ ((List.range (N - 1)).map (fun k : Nat => (k : Int) + 1)) [] 0 rfl (by omega) (by omega) (fun v q => by cases q) (fun v q => ?_) (-1, []) _ (iv0.pm (a := 1) (Nat.le_refl _) 0) (up_eq _ _ _ _) (fun I2 hi2 => ?_)
  · exact go
  · rw [List.pairwise_map]
    exact List.pairwise_lt_range.imp (fun q => by omega)
  · rw [List.mem_map]
    constructor
    · rintro ⟨k, k1, rfl⟩
      rw [List.mem_range] at k1
      exact ⟨by omega, by omega, fun z => by rw [List.mem_singleton] at z; omega⟩
    · rintro ⟨z1, z2, z3⟩
      refine ⟨(v - 1).toNat, List.mem_range.mpr ?_, ?_⟩
      · have : v ≠ 0 := fun q => z3 (by rw [q]; exact List.mem_cons_self)
        omega
      · have : v ≠ 0 := fun q => z3 (by rw [q]; exact List.mem_cons_self)
        omega
  · rw [List.mem_map] at q
    obtain ⟨k, k1, rfl⟩ := q
    omega
  · rw [← hrow] at hi2
    refine done I2 ?_
    unfold seatBest
    rw [hNt]
    exact hi2
theorem om_seats {m : Nat} {V : VV} {aim q : Int} (hM : qMod E.2.2 n sh R m) (h : MI I m V) (ha : in32 aim) (hq : in32 q) :
    Ct l E 7 mX7_seats [.ref m, .int (zI aim), .int (zI q)] (n, sh, I, L, R) 0 0 (qZ n sh (mpZ m I L R (r_seats V aim q) V)) := by
  have hng := h.1.ng
  have e5 := h.2.2.2.2.2.1.1
  refine Ct.of (lo := [(0, _), (1, _), (2, _)]) ok_X7_seats (Nat.le_of_ble_eq_true rfl) rfl ?_
  refine wk_iload_n (i := 1) (q := 1) dX7_seats_0 rfl rfl rfl ?_
  refine wk_iconst (q := 2) dX7_seats_1 rfl ?_
  refine wk_iconst (q := 3) dX7_seats_2 rfl ?_
  refine wk_sP3 (q := 6) dX7_seats_3 rfl sl_X7_121 (ct_X7_within ha (by omega) (by omega)) (qRo_m ok_X7_within (by decide) (Nat.le_refl _) (Nat.le_refl _)) (Nat.le_of_ble_eq_true rfl) (fun v3 hv3 => ?_)
  rcases hv3 with ⟨rfl, hv3⟩ | ⟨rfl, hv3⟩
  · refine wk_if_ne (t := 12) (q := 9) dX7_seats_6 rfl rfl (by omega) (fun _ => ?_) (fun hq => absurd hq (by decide))
    refine wk_iload_n (i := 2) (q := 13) dX7_seats_12 rfl rfl rfl ?_
    refine wk_iconst (q := 14) dX7_seats_13 rfl ?_
    refine wk_aload_n (i := 0) (q := 15) dX7_seats_14 rfl rfl rfl ?_
    refine wk_getI (fi := 5) (q := 18) dX7_seats_15 rfl fl_X7_125 rfl rfl hM.ob ?_
    refine wk_iconst (q := 19) dX7_seats_18 rfl ?_
    refine wk_isub (q := 20) dX7_seats_19 rfl ?_
    refine wk_sP3 (q := 23) dX7_seats_20 rfl sl_X7_121 (ct_X7_within hq (by omega) (by omega)) (qRo_m ok_X7_within (by decide) (Nat.le_refl _) (Nat.le_refl _)) (Nat.le_of_ble_eq_true rfl) (fun v20 hv20 => ?_)
    rcases hv20 with ⟨rfl, hv20⟩ | ⟨rfl, hv20⟩
    · rw [e5] at hv20
      refine wk_if_ne (t := 28) (q := 26) dX7_seats_23 rfl rfl (by omega) (fun _ => ?_) (fun hq => absurd hq (by decide))
      refine wk_aload_n (i := 0) (q := 29) dX7_seats_28 rfl rfl rfl ?_
      refine wk_cP0 (q := 32) dX7_seats_29 rfl vl_X7_190 ⟨_, _, rfl⟩ hM.ob (ct_X7_isTable hM (by omega)) (qRo_m ok_X7_isTable (by decide) (Nat.le_refl _) (Nat.le_refl _)) (Nat.le_of_ble_eq_true rfl) (fun v29 hv29 => ?_)
      rcases hv29 with ⟨rfl, hv29⟩ | ⟨rfl, hv29⟩
      · rw [e5] at hv29
        refine wk_if_ne (t := 38) (q := 35) dX7_seats_32 rfl rfl (by omega) (fun _ => ?_) (fun hq => absurd hq (by decide))
        refine wk_aload_n (i := 0) (q := 39) dX7_seats_38 rfl rfl rfl ?_
        refine wk_iload_n (i := 1) (q := 40) dX7_seats_39 rfl rfl rfl ?_
        refine wk_cV1 (q := 43) dX7_seats_40 rfl vl_X7_272 ⟨_, _, rfl⟩ hM.ob (ct_X7_findSeats hM h (by omega) (by omega)) (qRo_m ok_X7_findSeats (by decide) (Nat.le_refl _) (Nat.le_refl _)) (Nat.le_of_ble_eq_true rfl) (fun I40 L40 R40 hv40 => ?_)
        obtain ⟨rfl, rfl, h1, f1, f2, f3⟩ := hv40
        refine wk_iload_n (i := 2) (q := 44) dX7_seats_43 rfl rfl rfl ?_
        refine wk_if_ge (t := 54) (q := 47) dX7_seats_44 rfl rfl (by omega) (fun hc44 => ?_) (fun hc44 => ?_)
        · refine wk_aload_n (i := 0) (q := 55) dX7_seats_54 rfl rfl rfl ?_
          refine wk_getR (fi := 40) (q := 58) dX7_seats_55 rfl fl_X7_91 rfl rfl hM.ob hM.r40 ?_
          refine wk_iload_n (i := 2) (q := 59) dX7_seats_58 rfl rfl rfl ?_
          refine wk_iald (q := 60) dX7_seats_59 rfl hM.s40 (by omega) ?_
          refine wk_iret dX7_seats_60 rfl ⟨Nat.le_refl _, Nat.le_refl _⟩ rfl ?_
          refine ⟨_, _, _, _, rfl, rfl, ?_, h1, f1, rfl, rfl⟩
          unfold r_seats
          rw [if_neg (by omega), if_neg (by omega), if_neg (by omega)]
          first
            | (rw [if_neg (by omega)]; exact f3 q (by omega) (by omega))
            | (rw [if_pos (by omega)]; exact f2)
        · refine wk_aload_n (i := 0) (q := 48) dX7_seats_47 rfl rfl rfl ?_
          refine wk_getI (fi := 42) (q := 51) dX7_seats_48 rfl fl_X7_244 rfl rfl hM.ob ?_
          refine wk_goto (t := 60) dX7_seats_51 rfl ?_
          refine wk_iret dX7_seats_60 rfl ⟨Nat.le_refl _, Nat.le_refl _⟩ rfl ?_
          refine ⟨_, _, _, _, rfl, rfl, ?_, h1, f1, rfl, rfl⟩
          unfold r_seats
          rw [if_neg (by omega), if_neg (by omega), if_neg (by omega)]
          first
            | (rw [if_neg (by omega)]; exact f3 q (by omega) (by omega))
            | (rw [if_pos (by omega)]; exact f2)
      · rw [e5] at hv29
        refine wk_if_ne (t := 38) (q := 35) dX7_seats_32 rfl rfl (by omega) (fun hq => absurd hq (by decide)) (fun _ => ?_)
        refine wk_bipush (q := 37) dX7_seats_35 rfl (by decide +kernel) ?_
        refine wk_iret dX7_seats_37 rfl ⟨Nat.le_refl _, Nat.le_refl _⟩ rfl ?_
        refine mp_same h rfl ?_
        unfold r_seats
        first
          | rw [if_pos (by omega)]
          | rw [if_neg (by omega), if_pos (by omega)]
          | rw [if_neg (by omega), if_neg (by omega), if_pos hv29]
    · rw [e5] at hv20
      refine wk_if_ne (t := 28) (q := 26) dX7_seats_23 rfl rfl (by omega) (fun hq => absurd hq (by decide)) (fun _ => ?_)
      refine wk_iconst (q := 27) dX7_seats_26 rfl ?_
      refine wk_iret dX7_seats_27 rfl ⟨Nat.le_refl _, Nat.le_refl _⟩ rfl ?_
      refine mp_same h rfl ?_
      unfold r_seats
      first
        | rw [if_pos (by omega)]
        | rw [if_neg (by omega), if_pos (by omega)]
        | rw [if_neg (by omega), if_neg (by omega), if_pos hv29]
  · refine wk_if_ne (t := 12) (q := 9) dX7_seats_6 rfl rfl (by omega) (fun hq => absurd hq (by decide)) (fun _ => ?_)
    refine wk_bipush (q := 11) dX7_seats_9 rfl (by decide +kernel) ?_
    refine wk_iret dX7_seats_11 rfl ⟨Nat.le_refl _, Nat.le_refl _⟩ rfl ?_
    refine mp_same h rfl ?_
    unfold r_seats
    first
      | rw [if_pos (by omega)]
      | rw [if_neg (by omega), if_pos (by omega)]
      | rw [if_neg (by omega), if_neg (by omega), if_pos hv29]
end SEATS6
