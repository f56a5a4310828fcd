/-! THE LAW: a spoilt row is judged -/
theorem NW.stL {E : qEv} {n : Nat} {sh : qSh} {x aL : Nat} {I L I' : qI} {R : qR} {V : VV} (h : NW E n sh x I L R V) (ha : x + 173 ≤ aL) (hn : aL < E.2.2 + n) (hI : ∀ q i, q ≠ aL → I' q i = I q i) : NW E n sh x I' L R V := by
  obtain ⟨h1, h2, h3, h4, h5, h6, h7⟩ := h
  refine ⟨h1.frm (fun c i z1 z2 => hI c i (by omega)), h2, h3.st (fun i => hI _ _ (by omega)) (fun i => hI _ _ (by omega)) (fun i => hI _ _ (by omega)), fun q i z => (hI q i (by omega)).trans (h4 q i z), fun i i0 i1 => ?_, fun g g0 g1 => ?_, fun c g c0 c1 g0 g1 => ?_⟩
  · rw [hI _ _ (by omega), hI _ _ (by omega)]
    exact h5 i i0 i1
  · rw [hI _ _ (by omega), hI _ _ (by omega), hI _ _ (by omega)]
    exact h6 g g0 g1
  · rw [hI _ _ (by omega)]
    exact h7 c g c0 c1 g0 g1
theorem judL_bd {V : VV} {k i : Int} : ∀ (m : Nat) (d : Int), V.T.mn d - m ≤ judL V k i m d ∧ judL V k i m d ≤ V.T.mn d
  | 0, d => by
    show V.T.mn d - ((0 : Nat) : Int) ≤ V.T.mn d ∧ V.T.mn d ≤ V.T.mn d
    omega
  | m + 1, d => by
    have h := judL_bd (V := V) (k := k) (i := i) m
    unfold judL
    split
    · have := h d
      omega
    · unfold u1
      split
      · rename_i q
        rw [← q]
        have := h d
        omega
      · have := h d
        omega
/-- what is told at a place: the spoilt one, or the evening's -/
def toldR (V : VV) (spot other m : Int) : Int := if m = spot then other else (evV V).go (m / V.T.ng) (tgt V.C (m % V.T.ng))
section LAW4
variable {l : Launch} {E : qEv} {Q : List Frame → Array Value → State → State → Prop} {b N : Nat} {xs : Nat → Int32} {n : Nat} {sh : qSh} {x k j : Nat} {cd tn : Int}
/-- how one place's answer goes on -/
theorem jud_next {V V2 : VV} {m : Nat} {told th may h : Int} {Lm : Int → Int} (v1 : V2.T = V.T) (hLm : Lm = judL V2 1 1 m) (hh : judT V2 m = h) (hj : judN V2 1 1 m = -9) (hjc : jc V2 1 1 m = if told < 0 then -9 else told) (ht : told < V.T.nd) (hd : 0 ≤ V.T.nd) (hwo : ∀ d, 0 ≤ d → d < V.T.nd → -1 ≤ V.T.wo h d)
    (hth : (th = 0 ∧ anyF V.T Lm h V.T.nd.toNat = 0) ∨ (0 < th ∧ anyF V.T Lm h V.T.nd.toNat = 1)) (hmay : (may = 1 ∧ 0 ≤ told ∧ 0 < Lm told ∧ 0 ≤ V.T.wo h told) ∨ (may = 0 ∧ ¬ (0 ≤ told ∧ 0 < Lm told ∧ 0 ≤ V.T.wo h told))) :
    ((told < 0 ∧ may = 0 ∧ th = 0 ∧ judN V2 1 1 (m + 1) = -9) ∨ (told < 0 ∧ may = 0 ∧ 0 < th ∧ judN V2 1 1 (m + 1) = m) ∨ (0 ≤ told ∧ may = 1 ∧ judN V2 1 1 (m + 1) = -9) ∨ (0 ≤ told ∧ may = 0 ∧ judN V2 1 1 (m + 1) = m)) ∧ judL V2 1 1 (m + 1) = if told < 0 then Lm else u1 Lm told (Lm told - 1) := by
  have e1 : judN V2 1 1 (m + 1) = if judB V2 1 1 m = 1 then -9 else (m : Int) := by
    show (if judN V2 1 1 m ≠ -9 then judN V2 1 1 m else if judB V2 1 1 m = 1 then -9 else (m : Int)) = _
    rw [if_neg (fun z => z hj)]
  have e2 : judL V2 1 1 (m + 1) = if jc V2 1 1 m = -9 then judL V2 1 1 m else u1 (judL V2 1 1 m) (jc V2 1 1 m) (judL V2 1 1 m (jc V2 1 1 m) - 1) := rfl
  have e3 : judB V2 1 1 m = if jc V2 1 1 m = -9 then 1 - anyF V2.T (judL V2 1 1 m) (judT V2 m) V2.T.nd.toNat else if 0 < judL V2 1 1 m (jc V2 1 1 m) ∧ V2.T.wo (judT V2 m) (jc V2 1 1 m) ≠ -1 then 1 else 0 := rfl
  rw [hh, v1, ← hLm] at e3
  rw [← hLm] at e2
  by_cases c : told < 0
  · rw [if_pos c] at hjc
    rw [if_pos hjc] at e2 e3
    refine ⟨?_, by rw [e2, if_pos c]⟩
    have hm0 : may = 0 := by
      rcases hmay with q | q
      · omega
      · exact q.1
    rcases hth with ⟨q1, q2⟩ | ⟨q1, q2⟩
    · exact Or.inl ⟨c, hm0, q1, by rw [e1, e3, q2]; rfl⟩
    · exact Or.inr (Or.inl ⟨c, hm0, q1, by rw [e1, e3, q2]; rfl⟩)
  · rw [if_neg c] at hjc
    rw [if_neg (by omega), hjc] at e2 e3
    refine ⟨?_, by rw [e2, if_neg c]⟩
    have hw := hwo told (by omega) ht
    rcases hmay with ⟨q0, q1, q2, q3⟩ | ⟨q0, q1⟩
    · refine Or.inr (Or.inr (Or.inl ⟨q1, q0, ?_⟩))
      rw [if_pos (show 0 < Lm told ∧ V.T.wo h told ≠ -1 from ⟨q2, by omega⟩)] at e3
      rw [e1, if_pos e3]
    · refine Or.inr (Or.inr (Or.inr ⟨by omega, q0, ?_⟩))
      rw [if_neg (show ¬ (0 < Lm told ∧ V.T.wo h told ≠ -1) from fun z => q1 ⟨by omega, z.1, by omega⟩)] at e3
      rw [e1, if_neg (by omega)]
/-- one place of the spoilt row, from what is told there on -/
theorem sp_place {V V2 : VV} {v11 spot other : Int} {aL : Nat} (hk : k ≤ 600000) (hj : j ≤ 7302250) (hL : LC E.2.2 n sh x) (hal : x + 173 ≤ aL) (cL : isC E.2.2 n sh aL 0 6) (hp : 0 < V.T.ng) (hV : sameV V V2) (hok : V2.ok) {I L : qI} {R : qR} (hC : CI E.2.2 n sh x I L R V2) {m : Nat} {told h f v19 : Int} {I1 : qI} (hA : tyA I (x + 167) (x + 168) (x + 169) V.T V.C (evV V).la) (FR : ∀ q i, q ≠ aL → I1 q i = I q i) (hj : judN V2 1 1 m = -9) (hm : m < 60) (hLf : ∀ d, 0 ≤ d → d < V.T.nd → I1 aL d = judL V2 1 1 m d) (hh : judT V2 m = h) (hh2 : 0 ≤ h ∧ h < V.T.ng) (hjc : jc V2 1 1 m = if told < 0 then -9 else told) (ht : -9 ≤ told ∧ told < V.T.nd)
    (K : ∀ I3 f', (∀ q i, q ≠ aL → I3 q i = I q i) → f' = judN V2 1 1 (m + 1) → (f' = -9 → ∀ d, 0 ≤ d → d < V.T.nd → I3 aL d = judL V2 1 1 (m + 1) d) → Wk l E (lwY E Q b N xs) mL k j 545 [(0, .ref b), (1, .ref x), (2, .ref (x + 167)), (3, .ref (x + 168)), (4, .ref (x + 169)), (5, .int (zI cd)), (6, .int (zI V.T.ng)), (7, .ref (x + 170)), (8, .ref (x + 171)), (9, .ref (x + 172)), (10, .int (zI tn)), (11, .int (zI v11)), (13, .int (zI (V.C.co * V.T.ng))), (14, .int (zI spot)), (15, .int (zI other)), (16, .ref aL), (17, .int (zI f')), (18, .int (zI ((m : Int) + 1)))] [] (n, sh, I3, L, R)) :
    Wk l E (lwY E Q b N xs) mL k j 602 [(0, .ref b), (1, .ref x), (2, .ref (x + 167)), (3, .ref (x + 168)), (4, .ref (x + 169)), (5, .int (zI cd)), (6, .int (zI V.T.ng)), (7, .ref (x + 170)), (8, .ref (x + 171)), (9, .ref (x + 172)), (10, .int (zI tn)), (11, .int (zI v11)), (13, .int (zI (V.C.co * V.T.ng))), (14, .int (zI spot)), (15, .int (zI other)), (16, .ref aL), (17, .int (zI f)), (18, .int (zI m)), (19, .int (zI h))] [.int (zI told)] (n, sh, I1, L, R) := by
  obtain ⟨cT, cW, cU, cP, cG, cO⟩ := id hL
  obtain ⟨v1, v2, v3, v4⟩ := id hV
  obtain ⟨hT2, hN2, hLA2⟩ := hok.tab (by rw [v1]; exact hp)
  have hT : V.T.ok := by rw [← v1]; exact hT2
  have hNo : V.C.now V.T := by rw [← v1, ← v2]; exact hN2
  have hO := hC.isX
  have hn2 := hT.1
  have hn7 := hT.2.1
  have hd6 := hT.2.2.2.1
  have hd2 := hT.2.2.1
  have hco : V.C.co ≤ 8 := hNo.1.2.2.2.2.2.1
  have hco1 : 1 ≤ V.C.co := hNo.1.2.2.2.2.1
  have hst : 1 ≤ V.C.st ∧ V.C.st < V.T.ng := ⟨hNo.1.2.2.1, hNo.1.2.2.2.1⟩
  have zz := row_z ⟨hco1, hco⟩ ⟨hn2, hn7⟩
  obtain ⟨Lm, hLm⟩ : ∃ Lm, Lm = judL V2 1 1 m := ⟨_, rfl⟩
  have hLb : ∀ d, 0 ≤ d → d < V.T.nd → -60 ≤ Lm d ∧ Lm d ≤ 9 := fun d d0 d1 => by
    have q := judL_bd (V := V2) (k := 1) (i := 1) m d
    have q2 := hT.2.2.2.2.1 d d0 d1
    rw [v1] at q
    rw [hLm]
    omega
  rw [← hLm] at hLf
  have hwo : ∀ d, 0 ≤ d → d < V.T.nd → -1 ≤ V.T.wo h d ∧ V.T.wo h d ≤ 9 := fun d d0 d1 => (hT.2.2.2.2.2 h hh2.1 hh2.2).2.2.2.2.2.2 d d0 d1
  have e1 : I1 (x + 167) 1 = V.T.nd := (FR _ _ (by omega)).trans hA.2.1
  have ew : ∀ d, 0 ≤ d → d < V.T.nd → I1 (x + 168) (6 * h + d) = V.T.wo h d := fun d d0 d1 => (FR _ _ (by omega)).trans (hA.2.2.2.2.2.2 h d hh2.1 hh2.2 d0 d1).1
  have j688 : ∀ th may v23 : Int, ((th = 0 ∧ anyF V.T Lm h V.T.nd.toNat = 0) ∨ (0 < th ∧ anyF V.T Lm h V.T.nd.toNat = 1)) → th ≤ V.T.nd → ((may = 1 ∧ 0 ≤ told ∧ 0 < Lm told ∧ 0 ≤ V.T.wo h told) ∨ (may = 0 ∧ ¬ (0 ≤ told ∧ 0 < Lm told ∧ 0 ≤ V.T.wo h told))) → Wk l E (lwY E Q b N xs) mL k j 688 [(0, .ref b), (1, .ref x), (2, .ref (x + 167)), (3, .ref (x + 168)), (4, .ref (x + 169)), (5, .int (zI cd)), (6, .int (zI V.T.ng)), (7, .ref (x + 170)), (8, .ref (x + 171)), (9, .ref (x + 172)), (10, .int (zI tn)), (11, .int (zI v11)), (13, .int (zI (V.C.co * V.T.ng))), (14, .int (zI spot)), (15, .int (zI other)), (16, .ref aL), (17, .int (zI f)), (18, .int (zI m)), (19, .int (zI h)), (20, .int (zI told)), (21, .int (zI may)), (22, .int (zI th)), (23, .int (zI v23))] [] (n, sh, I1, L, R) := by
    intro th may v23 hth hth2 hmay
    obtain ⟨nx, nl⟩ := jud_next v1 hLm hh hj hjc ht.2 (by omega) (fun d d0 d1 => (hwo d d0 d1).1) hth hmay
    have hm01 : may = 0 ∨ may = 1 := by omega
    have j710 : ∀ f', f' = judN V2 1 1 (m + 1) → Wk l E (lwY E Q b N xs) mL k j 710 [(0, .ref b), (1, .ref x), (2, .ref (x + 167)), (3, .ref (x + 168)), (4, .ref (x + 169)), (5, .int (zI cd)), (6, .int (zI V.T.ng)), (7, .ref (x + 170)), (8, .ref (x + 171)), (9, .ref (x + 172)), (10, .int (zI tn)), (11, .int (zI v11)), (13, .int (zI (V.C.co * V.T.ng))), (14, .int (zI spot)), (15, .int (zI other)), (16, .ref aL), (17, .int (zI f)), (18, .int (zI m)), (19, .int (zI h)), (20, .int (zI told)), (21, .int (zI may)), (22, .int (zI th)), (23, .int (zI v23))] [.int (zI f')] (n, sh, I1, L, R) := by
      intro f' hf'
      have k0 : may = 0 → _ := fun z => K I1 f' FR hf' (fun z2 d d0 d1 => by
        rw [nl, if_pos (by omega)]
        exact hLf d d0 d1)
      have k1 : may = 1 → 0 ≤ told → _ := fun z z2 => K (up I1 aL told (Lm told - 1)) f' (fun q i y => (up_na _ _ _ _ y).trans (FR q i y)) hf' (fun z2 d d0 d1 => by
        rw [nl, if_neg (by omega)]
        by_cases y : d = told
        · rw [y, up_eq, u1_eq]
        · rw [up_ni _ _ y, u1_ne y]
          exact hLf d d0 d1)
      refine wk_istore (i := 17) (lo' := [(0, _), (1, _), (2, _), (3, _), (4, _), (5, _), (6, _), (7, _), (8, _), (9, _), (10, _), (11, _), (13, _), (14, _), (15, _), (16, _), (17, _), (18, _), (19, _), (20, _), (21, _), (22, _), (23, _)]) (q := 712) dL_law_710 rfl (by decide) rfl ?_
      refine wk_iload (i := 21) (q := 714) dL_law_712 rfl rfl ?_
      refine wk_if_eq (t := 726) (q := 717) dL_law_714 rfl rfl (by omega) (fun hc714 => ?_) (fun hc714 => ?_)
      · refine wk_iinc (lo' := [(0, _), (1, _), (2, _), (3, _), (4, _), (5, _), (6, _), (7, _), (8, _), (9, _), (10, _), (11, _), (13, _), (14, _), (15, _), (16, _), (17, _), (18, _), (19, _), (20, _), (21, _), (22, _), (23, _)]) (q := 729) dL_law_726 rfl rfl (by decide) rfl ?_
        refine wk_goto (t := 545) dL_law_729 rfl ?_
        refine wk_del (i := 23) (lo' := [(0, _), (1, _), (2, _), (3, _), (4, _), (5, _), (6, _), (7, _), (8, _), (9, _), (10, _), (11, _), (13, _), (14, _), (15, _), (16, _), (17, _), (18, _), (19, _), (20, _), (21, _), (22, _)]) rfl ?_
        refine wk_del (i := 22) (lo' := [(0, _), (1, _), (2, _), (3, _), (4, _), (5, _), (6, _), (7, _), (8, _), (9, _), (10, _), (11, _), (13, _), (14, _), (15, _), (16, _), (17, _), (18, _), (19, _), (20, _), (21, _)]) rfl ?_
        refine wk_del (i := 21) (lo' := [(0, _), (1, _), (2, _), (3, _), (4, _), (5, _), (6, _), (7, _), (8, _), (9, _), (10, _), (11, _), (13, _), (14, _), (15, _), (16, _), (17, _), (18, _), (19, _), (20, _)]) rfl ?_
        refine wk_del (i := 20) (lo' := [(0, _), (1, _), (2, _), (3, _), (4, _), (5, _), (6, _), (7, _), (8, _), (9, _), (10, _), (11, _), (13, _), (14, _), (15, _), (16, _), (17, _), (18, _), (19, _)]) rfl ?_
        refine wk_del (i := 19) (lo' := [(0, _), (1, _), (2, _), (3, _), (4, _), (5, _), (6, _), (7, _), (8, _), (9, _), (10, _), (11, _), (13, _), (14, _), (15, _), (16, _), (17, _), (18, _)]) rfl ?_
        first
        | exact k0 (by omega)
        | exact k1 (by omega) (by omega)
      · refine wk_aload (i := 16) (q := 719) dL_law_717 rfl rfl ?_
        refine wk_iload (i := 20) (q := 721) dL_law_719 rfl rfl ?_
        refine wk_dup2 (q := 722) dL_law_721 rfl rfl rfl ?_
        refine wk_iald (q := 723) dL_law_722 rfl cL (by omega) ?_
        rw [hLf told (by omega) (by omega)]
        refine wk_iconst (q := 724) dL_law_723 rfl ?_
        refine wk_isub (q := 725) dL_law_724 rfl ?_
        refine wk_iast (q := 726) dL_law_725 rfl cL (by omega) ?_
        refine wk_iinc (lo' := [(0, _), (1, _), (2, _), (3, _), (4, _), (5, _), (6, _), (7, _), (8, _), (9, _), (10, _), (11, _), (13, _), (14, _), (15, _), (16, _), (17, _), (18, _), (19, _), (20, _), (21, _), (22, _), (23, _)]) (q := 729) dL_law_726 rfl rfl (by decide) rfl ?_
        refine wk_goto (t := 545) dL_law_729 rfl ?_
        refine wk_del (i := 23) (lo' := [(0, _), (1, _), (2, _), (3, _), (4, _), (5, _), (6, _), (7, _), (8, _), (9, _), (10, _), (11, _), (13, _), (14, _), (15, _), (16, _), (17, _), (18, _), (19, _), (20, _), (21, _), (22, _)]) rfl ?_
        refine wk_del (i := 22) (lo' := [(0, _), (1, _), (2, _), (3, _), (4, _), (5, _), (6, _), (7, _), (8, _), (9, _), (10, _), (11, _), (13, _), (14, _), (15, _), (16, _), (17, _), (18, _), (19, _), (20, _), (21, _)]) rfl ?_
        refine wk_del (i := 21) (lo' := [(0, _), (1, _), (2, _), (3, _), (4, _), (5, _), (6, _), (7, _), (8, _), (9, _), (10, _), (11, _), (13, _), (14, _), (15, _), (16, _), (17, _), (18, _), (19, _), (20, _)]) rfl ?_
        refine wk_del (i := 20) (lo' := [(0, _), (1, _), (2, _), (3, _), (4, _), (5, _), (6, _), (7, _), (8, _), (9, _), (10, _), (11, _), (13, _), (14, _), (15, _), (16, _), (17, _), (18, _), (19, _)]) rfl ?_
        refine wk_del (i := 19) (lo' := [(0, _), (1, _), (2, _), (3, _), (4, _), (5, _), (6, _), (7, _), (8, _), (9, _), (10, _), (11, _), (13, _), (14, _), (15, _), (16, _), (17, _), (18, _)]) rfl ?_
        first
        | exact k0 (by omega)
        | exact k1 (by omega) (by omega)
    refine wk_iload (i := 20) (q := 690) dL_law_688 rfl rfl ?_
    refine wk_if_ge (t := 698) (q := 693) dL_law_690 rfl rfl (by omega) (fun hc690 => ?_) (fun hc690 => ?_)
    · refine wk_iload (i := 21) (q := 700) dL_law_698 rfl rfl ?_
      refine wk_if_eq (t := 708) (q := 703) dL_law_700 rfl rfl (by omega) (fun hc700 => ?_) (fun hc700 => ?_)
      · refine wk_iload (i := 18) (q := 710) dL_law_708 rfl rfl ?_
        first
        | exact j710 (-9) (by omega)
        | exact j710 m (by omega)
      · refine wk_bipush (q := 705) dL_law_703 rfl (by decide +kernel) ?_
        refine wk_goto (t := 710) dL_law_705 rfl ?_
        first
        | exact j710 (-9) (by omega)
        | exact j710 m (by omega)
    · refine wk_iload (i := 22) (q := 695) dL_law_693 rfl rfl ?_
      refine wk_if_eq (t := 703) (q := 698) dL_law_695 rfl rfl (by omega) (fun hc695 => ?_) (fun hc695 => ?_)
      · refine wk_bipush (q := 705) dL_law_703 rfl (by decide +kernel) ?_
        refine wk_goto (t := 710) dL_law_705 rfl ?_
        first
        | exact j710 (-9) (by omega)
        | exact j710 m (by omega)
      · refine wk_iload (i := 21) (q := 700) dL_law_698 rfl rfl ?_
        refine wk_if_eq (t := 708) (q := 703) dL_law_700 rfl rfl (by omega) (fun hc700 => ?_) (fun hc700 => ?_)
        · refine wk_iload (i := 18) (q := 710) dL_law_708 rfl rfl ?_
          first
          | exact j710 (-9) (by omega)
          | exact j710 m (by omega)
        · refine wk_bipush (q := 705) dL_law_703 rfl (by decide +kernel) ?_
          refine wk_goto (t := 710) dL_law_705 rfl ?_
          first
          | exact j710 (-9) (by omega)
          | exact j710 m (by omega)
  have count : ∀ may : Int, ((may = 1 ∧ 0 ≤ told ∧ 0 < Lm told ∧ 0 ≤ V.T.wo h told) ∨ (may = 0 ∧ ¬ (0 ≤ told ∧ 0 < Lm told ∧ 0 ≤ V.T.wo h told))) → ∀ d : Nat, d ≤ V.T.nd.toNat → ∀ th : Int, ((th = 0 ∧ anyF V.T Lm h d = 0) ∨ (0 < th ∧ anyF V.T Lm h d = 1)) → th ≤ d → Wk l E (lwY E Q b N xs) mL k j 643 [(0, .ref b), (1, .ref x), (2, .ref (x + 167)), (3, .ref (x + 168)), (4, .ref (x + 169)), (5, .int (zI cd)), (6, .int (zI V.T.ng)), (7, .ref (x + 170)), (8, .ref (x + 171)), (9, .ref (x + 172)), (10, .int (zI tn)), (11, .int (zI v11)), (13, .int (zI (V.C.co * V.T.ng))), (14, .int (zI spot)), (15, .int (zI other)), (16, .ref aL), (17, .int (zI f)), (18, .int (zI m)), (19, .int (zI h)), (20, .int (zI told)), (21, .int (zI may)), (22, .int (zI th)), (23, .int (zI d))] [] (n, sh, I1, L, R) := by
    intro may hmay
    refine up_ind V.T.nd.toNat ?_ ?_
    · intro th hth hth2
      have w := j688 th may (((V.T.nd.toNat : Nat) : Int)) hth (by omega) hmay
      refine wk_iload (i := 23) (q := 645) dL_law_643 rfl rfl ?_
      refine wk_aload_n (i := 2) (q := 646) dL_law_645 rfl rfl rfl ?_
      refine wk_iconst (q := 647) dL_law_646 rfl ?_
      refine wk_iald (q := 648) dL_law_647 rfl cT (by omega) ?_
      refine wk_icmp_ge (t := 688) (q := 651) dL_law_648 rfl rfl (by omega) (by omega) (fun hc648 => ?_) (fun hc648 => ?_)
      · exact w
      · omega
    · intro d hd ih th hth hth2
      have b1 := hLb d (by omega) (by omega)
      have b2 := hwo d (by omega) (by omega)
      have l1 := hLf d (by omega) (by omega)
      have w1 := ew d (by omega) (by omega)
      have an : anyF V.T Lm h (d + 1) = if 0 < Lm d ∧ V.T.wo h d ≠ -1 then 1 else anyF V.T Lm h d := rfl
      have y1 : 0 < Lm d → 0 ≤ V.T.wo h d → anyF V.T Lm h (d + 1) = 1 := fun z1 z2 => by
        rw [an, if_pos ⟨z1, by omega⟩]
      have y0 : ¬ (0 < Lm d ∧ 0 ≤ V.T.wo h d) → anyF V.T Lm h (d + 1) = anyF V.T Lm h d := fun z => by
        rw [an, if_neg (fun q => z ⟨q.1, by omega⟩)]
      clear an
      refine wk_iload (i := 23) (q := 645) dL_law_643 rfl rfl ?_
      refine wk_aload_n (i := 2) (q := 646) dL_law_645 rfl rfl rfl ?_
      refine wk_iconst (q := 647) dL_law_646 rfl ?_
      refine wk_iald (q := 648) dL_law_647 rfl cT (by omega) ?_
      refine wk_icmp_ge (t := 688) (q := 651) dL_law_648 rfl rfl (by omega) (by omega) (fun hc648 => ?_) (fun hc648 => ?_)
      · omega
      · refine wk_iload (i := 22) (q := 653) dL_law_651 rfl rfl ?_
        refine wk_aload (i := 16) (q := 655) dL_law_653 rfl rfl ?_
        refine wk_iload (i := 23) (q := 657) dL_law_655 rfl rfl ?_
        refine wk_iald (q := 658) dL_law_657 rfl cL (by omega) ?_
        rw [l1]
        refine wk_if_le (t := 678) (q := 661) dL_law_658 rfl rfl (by omega) (fun hc658 => ?_) (fun hc658 => ?_)
        · refine wk_iconst (q := 679) dL_law_678 rfl ?_
          refine wk_iadd (q := 680) dL_law_679 rfl ?_
          refine wk_istore (i := 22) (lo' := [(0, _), (1, _), (2, _), (3, _), (4, _), (5, _), (6, _), (7, _), (8, _), (9, _), (10, _), (11, _), (13, _), (14, _), (15, _), (16, _), (17, _), (18, _), (19, _), (20, _), (21, _), (22, _), (23, _)]) (q := 682) dL_law_680 rfl (by decide) rfl ?_
          refine wk_iinc (lo' := [(0, _), (1, _), (2, _), (3, _), (4, _), (5, _), (6, _), (7, _), (8, _), (9, _), (10, _), (11, _), (13, _), (14, _), (15, _), (16, _), (17, _), (18, _), (19, _), (20, _), (21, _), (22, _), (23, _)]) (q := 685) dL_law_682 rfl rfl (by decide) rfl ?_
          refine wk_goto (t := 643) dL_law_685 rfl ?_
          first
          | exact ih _ (Or.inr ⟨by omega, y1 (by omega) (by omega)⟩) (by omega)
          | exact ih _ (by rw [y0 (by omega)]; omega) (by omega)
        · refine wk_aload_n (i := 3) (q := 662) dL_law_661 rfl rfl rfl ?_
          refine wk_bipush (q := 664) dL_law_662 rfl (by decide +kernel) ?_
          refine wk_iload (i := 19) (q := 666) dL_law_664 rfl rfl ?_
          refine wk_imul (q := 667) dL_law_666 rfl ?_
          refine wk_iload (i := 23) (q := 669) dL_law_667 rfl rfl ?_
          refine wk_iadd (q := 670) dL_law_669 rfl ?_
          refine wk_iald (q := 671) dL_law_670 rfl cW (by omega) ?_
          rw [w1]
          refine wk_if_lt (t := 678) (q := 674) dL_law_671 rfl rfl (by omega) (fun hc671 => ?_) (fun hc671 => ?_)
          · refine wk_iconst (q := 679) dL_law_678 rfl ?_
            refine wk_iadd (q := 680) dL_law_679 rfl ?_
            refine wk_istore (i := 22) (lo' := [(0, _), (1, _), (2, _), (3, _), (4, _), (5, _), (6, _), (7, _), (8, _), (9, _), (10, _), (11, _), (13, _), (14, _), (15, _), (16, _), (17, _), (18, _), (19, _), (20, _), (21, _), (22, _), (23, _)]) (q := 682) dL_law_680 rfl (by decide) rfl ?_
            refine wk_iinc (lo' := [(0, _), (1, _), (2, _), (3, _), (4, _), (5, _), (6, _), (7, _), (8, _), (9, _), (10, _), (11, _), (13, _), (14, _), (15, _), (16, _), (17, _), (18, _), (19, _), (20, _), (21, _), (22, _), (23, _)]) (q := 685) dL_law_682 rfl rfl (by decide) rfl ?_
            refine wk_goto (t := 643) dL_law_685 rfl ?_
            first
            | exact ih _ (Or.inr ⟨by omega, y1 (by omega) (by omega)⟩) (by omega)
            | exact ih _ (by rw [y0 (by omega)]; omega) (by omega)
          · refine wk_iconst (q := 675) dL_law_674 rfl ?_
            refine wk_goto (t := 679) dL_law_675 rfl ?_
            refine wk_iadd (q := 680) dL_law_679 rfl ?_
            refine wk_istore (i := 22) (lo' := [(0, _), (1, _), (2, _), (3, _), (4, _), (5, _), (6, _), (7, _), (8, _), (9, _), (10, _), (11, _), (13, _), (14, _), (15, _), (16, _), (17, _), (18, _), (19, _), (20, _), (21, _), (22, _), (23, _)]) (q := 682) dL_law_680 rfl (by decide) rfl ?_
            refine wk_iinc (lo' := [(0, _), (1, _), (2, _), (3, _), (4, _), (5, _), (6, _), (7, _), (8, _), (9, _), (10, _), (11, _), (13, _), (14, _), (15, _), (16, _), (17, _), (18, _), (19, _), (20, _), (21, _), (22, _), (23, _)]) (q := 685) dL_law_682 rfl rfl (by decide) rfl ?_
            refine wk_goto (t := 643) dL_law_685 rfl ?_
            first
            | exact ih _ (Or.inr ⟨by omega, y1 (by omega) (by omega)⟩) (by omega)
            | exact ih _ (by rw [y0 (by omega)]; omega) (by omega)
  have j635 : ∀ may : Int, ((may = 1 ∧ 0 ≤ told ∧ 0 < Lm told ∧ 0 ≤ V.T.wo h told) ∨ (may = 0 ∧ ¬ (0 ≤ told ∧ 0 < Lm told ∧ 0 ≤ V.T.wo h told))) → Wk l E (lwY E Q b N xs) mL k j 635 [(0, .ref b), (1, .ref x), (2, .ref (x + 167)), (3, .ref (x + 168)), (4, .ref (x + 169)), (5, .int (zI cd)), (6, .int (zI V.T.ng)), (7, .ref (x + 170)), (8, .ref (x + 171)), (9, .ref (x + 172)), (10, .int (zI tn)), (11, .int (zI v11)), (13, .int (zI (V.C.co * V.T.ng))), (14, .int (zI spot)), (15, .int (zI other)), (16, .ref aL), (17, .int (zI f)), (18, .int (zI m)), (19, .int (zI h)), (20, .int (zI told))] [.int (zI may)] (n, sh, I1, L, R) := by
    intro may hmay
    have w := count may hmay 0 (Nat.zero_le _) 0 (Or.inl ⟨rfl, rfl⟩) (Int.le_refl _)
    refine wk_istore (i := 21) (lo' := [(0, _), (1, _), (2, _), (3, _), (4, _), (5, _), (6, _), (7, _), (8, _), (9, _), (10, _), (11, _), (13, _), (14, _), (15, _), (16, _), (17, _), (18, _), (19, _), (20, _), (21, _)]) (q := 637) dL_law_635 rfl (by decide) rfl ?_
    refine wk_iconst (q := 638) dL_law_637 rfl ?_
    refine wk_istore (i := 22) (lo' := [(0, _), (1, _), (2, _), (3, _), (4, _), (5, _), (6, _), (7, _), (8, _), (9, _), (10, _), (11, _), (13, _), (14, _), (15, _), (16, _), (17, _), (18, _), (19, _), (20, _), (21, _), (22, _)]) (q := 640) dL_law_638 rfl (by decide) rfl ?_
    refine wk_iconst (q := 641) dL_law_640 rfl ?_
    refine wk_istore (i := 23) (lo' := [(0, _), (1, _), (2, _), (3, _), (4, _), (5, _), (6, _), (7, _), (8, _), (9, _), (10, _), (11, _), (13, _), (14, _), (15, _), (16, _), (17, _), (18, _), (19, _), (20, _), (21, _), (22, _), (23, _)]) (q := 643) dL_law_641 rfl (by decide) rfl ?_
    exact w
  refine wk_istore (i := 20) (lo' := [(0, _), (1, _), (2, _), (3, _), (4, _), (5, _), (6, _), (7, _), (8, _), (9, _), (10, _), (11, _), (13, _), (14, _), (15, _), (16, _), (17, _), (18, _), (19, _), (20, _)]) (q := 604) dL_law_602 rfl (by decide) rfl ?_
  refine wk_iload (i := 20) (q := 606) dL_law_604 rfl rfl ?_
  refine wk_if_lt (t := 634) (q := 609) dL_law_606 rfl rfl (by omega) (fun hc606 => ?_) (fun hc606 => ?_)
  · refine wk_iconst (q := 635) dL_law_634 rfl ?_
    first
    | exact j635 1 (Or.inl ⟨rfl, by omega, by omega, by omega⟩)
    | exact j635 0 (Or.inr ⟨rfl, fun z => by omega⟩)
  · refine wk_aload (i := 16) (q := 611) dL_law_609 rfl rfl ?_
    refine wk_iload (i := 20) (q := 613) dL_law_611 rfl rfl ?_
    refine wk_iald (q := 614) dL_law_613 rfl cL (by omega) ?_
    have lt := hLf told (by omega) (by omega)
    have bt := hLb told (by omega) (by omega)
    have bw := hwo told (by omega) (by omega)
    have wt := ew told (by omega) (by omega)
    rw [lt]
    refine wk_if_le (t := 634) (q := 617) dL_law_614 rfl rfl (by omega) (fun hc614 => ?_) (fun hc614 => ?_)
    · refine wk_iconst (q := 635) dL_law_634 rfl ?_
      first
      | exact j635 1 (Or.inl ⟨rfl, by omega, by omega, by omega⟩)
      | exact j635 0 (Or.inr ⟨rfl, fun z => by omega⟩)
    · refine wk_aload_n (i := 3) (q := 618) dL_law_617 rfl rfl rfl ?_
      refine wk_bipush (q := 620) dL_law_618 rfl (by decide +kernel) ?_
      refine wk_iload (i := 19) (q := 622) dL_law_620 rfl rfl ?_
      refine wk_imul (q := 623) dL_law_622 rfl ?_
      refine wk_iload (i := 20) (q := 625) dL_law_623 rfl rfl ?_
      refine wk_iadd (q := 626) dL_law_625 rfl ?_
      refine wk_iald (q := 627) dL_law_626 rfl cW (by omega) ?_
      rw [wt]
      refine wk_if_lt (t := 634) (q := 630) dL_law_627 rfl rfl (by omega) (fun hc627 => ?_) (fun hc627 => ?_)
      · refine wk_iconst (q := 635) dL_law_634 rfl ?_
        first
        | exact j635 1 (Or.inl ⟨rfl, by omega, by omega, by omega⟩)
        | exact j635 0 (Or.inr ⟨rfl, fun z => by omega⟩)
      · refine wk_iconst (q := 631) dL_law_630 rfl ?_
        refine wk_goto (t := 635) dL_law_631 rfl ?_
        first
        | exact j635 1 (Or.inl ⟨rfl, by omega, by omega, by omega⟩)
        | exact j635 0 (Or.inr ⟨rfl, fun z => by omega⟩)
/-- the law's own judging of the spoilt row -/
theorem sp_loop {V V2 : VV} {v11 spot other : Int} {aL : Nat} (hk : k ≤ 600000) (hj : j ≤ 7302250) (hL : LC E.2.2 n sh x) (hal : x + 173 ≤ aL) (cL : isC E.2.2 n sh aL 0 6) (hp : 0 < V.T.ng) (hV : sameV V V2) (hok : V2.ok) {I L : qI} {R : qR} (hC : CI E.2.2 n sh x I L R V2) (hW : NW E n sh x I L R V2) (hso : 0 ≤ spot ∧ spot < 60) (hot : -1 ≤ other ∧ other < V.T.nd) (hce : ∀ i, 0 ≤ i → i < V.C.co * V.T.ng → V2.ce 1 (1 + i) = if toldR V spot other i < 0 then -9 else toldR V spot other i)
    (K : ∀ I3 v18, (∀ q i, q ≠ aL → I3 q i = I q i) → Wk l E (lwY E Q b N xs) mL k j 732 [(0, .ref b), (1, .ref x), (2, .ref (x + 167)), (3, .ref (x + 168)), (4, .ref (x + 169)), (5, .int (zI cd)), (6, .int (zI V.T.ng)), (7, .ref (x + 170)), (8, .ref (x + 171)), (9, .ref (x + 172)), (10, .int (zI tn)), (11, .int (zI v11)), (13, .int (zI (V.C.co * V.T.ng))), (14, .int (zI spot)), (15, .int (zI other)), (16, .ref aL), (17, .int (zI (judN V2 1 1 (V.C.co * V.T.ng).toNat))), (18, .int (zI v18))] [] (n, sh, I3, L, R)) :
    ∀ m : Nat, m ≤ (V.C.co * V.T.ng).toNat → ∀ (I1 : qI) (f : Int), (∀ q i, q ≠ aL → I1 q i = I q i) → f = judN V2 1 1 m → (f = -9 → ∀ d, 0 ≤ d → d < V.T.nd → I1 aL d = judL V2 1 1 m d) → Wk l E (lwY E Q b N xs) mL k j 545 [(0, .ref b), (1, .ref x), (2, .ref (x + 167)), (3, .ref (x + 168)), (4, .ref (x + 169)), (5, .int (zI cd)), (6, .int (zI V.T.ng)), (7, .ref (x + 170)), (8, .ref (x + 171)), (9, .ref (x + 172)), (10, .int (zI tn)), (11, .int (zI v11)), (13, .int (zI (V.C.co * V.T.ng))), (14, .int (zI spot)), (15, .int (zI other)), (16, .ref aL), (17, .int (zI f)), (18, .int (zI m))] [] (n, sh, I1, L, R) := by
  obtain ⟨cT, cW, cU, cP, cG, cO⟩ := id hL
  obtain ⟨v1, v2, v3, v4⟩ := id hV
  obtain ⟨hT2, hN2, hLA2⟩ := hok.tab (by rw [v1]; exact hp)
  have hT : V.T.ok := by rw [← v1]; exact hT2
  have hNo : V.C.now V.T := by rw [← v1, ← v2]; exact hN2
  have hO := hC.isX
  have hn2 := hT.1
  have hn7 := hT.2.1
  have hd6 := hT.2.2.2.1
  have hd2 := hT.2.2.1
  have hco : V.C.co ≤ 8 := hNo.1.2.2.2.2.2.1
  have hco1 : 1 ≤ V.C.co := hNo.1.2.2.2.2.1
  have hst : 1 ≤ V.C.st ∧ V.C.st < V.T.ng := ⟨hNo.1.2.2.1, hNo.1.2.2.2.1⟩
  have zz := row_z ⟨hco1, hco⟩ ⟨hn2, hn7⟩
  have hA := hW.2.2.1
  rw [v1, v2, hV.ev] at hA
  refine up_ind (V.C.co * V.T.ng).toNat ?_ ?_
  · intro I1 f FR hf hLf
    have hjn := judN_in (V := V2) (k := 1) (i := 1) (V.C.co * V.T.ng).toNat
    have w := K I1 (((V.C.co * V.T.ng).toNat : Nat) : Int) FR
    rw [← hf] at w hjn
    refine wk_iload (i := 18) (q := 547) dL_law_545 rfl rfl ?_
    refine wk_iload (i := 13) (q := 549) dL_law_547 rfl rfl ?_
    refine wk_icmp_ge (t := 732) (q := 552) dL_law_549 rfl rfl (by omega) (by omega) (fun hc549 => ?_) (fun hc549 => ?_)
    · exact w
    · omega
  · intro m hm ih I1 f FR hf hLf
    have hjn := judN_in (V := V2) (k := 1) (i := 1) m
    have stop : 0 ≤ f → Wk l E (lwY E Q b N xs) mL k j 732 [(0, .ref b), (1, .ref x), (2, .ref (x + 167)), (3, .ref (x + 168)), (4, .ref (x + 169)), (5, .int (zI cd)), (6, .int (zI V.T.ng)), (7, .ref (x + 170)), (8, .ref (x + 171)), (9, .ref (x + 172)), (10, .int (zI tn)), (11, .int (zI v11)), (13, .int (zI (V.C.co * V.T.ng))), (14, .int (zI spot)), (15, .int (zI other)), (16, .ref aL), (17, .int (zI f)), (18, .int (zI m))] [] (n, sh, I1, L, R) := fun z => by
      have w := K I1 m FR
      have e := judN_stp (V := V2) (k := 1) (i := 1) (j := m) (by omega) ((V.C.co * V.T.ng).toNat - m)
      rw [show m + ((V.C.co * V.T.ng).toNat - m) = (V.C.co * V.T.ng).toNat by omega, ← hf] at e
      rw [e] at w
      exact w
    obtain ⟨⟨d0, d1⟩, r0, r1⟩ := row_ix (m := (m : Int)) (c := V.C.co) (by omega : 0 < V.T.ng) rfl (by omega) (by omega)
    have ht := tgt_in hNo.1 ((m : Int) % V.T.ng)
    have hgo := go_in hT hNo d0 d1 ht.1 ht.2
    have e2 : I1 (x + 167) 2 = V.C.st := (FR _ _ (by omega)).trans hA.2.2.1
    have ix := tgt_ix hNo.1 (s := (m : Int) % V.T.ng)
    rw [hNo.2.1] at ix
    have et : I1 (x + 167) (37 + ((m : Int) % V.T.ng + V.C.st) % V.T.ng) = tgt V.C ((m : Int) % V.T.ng) := by
      rw [FR _ _ (by omega), (hA.2.2.2.2.2.1 _ ix.1 ix.2).2.2.2.1]
      unfold tgt
      rw [hNo.2.1]
    have eg : I1 (x + 172) (7 * ((m : Int) / V.T.ng) + tgt V.C ((m : Int) % V.T.ng)) = (evV V).go ((m : Int) / V.T.ng) (tgt V.C ((m : Int) % V.T.ng)) := by
      rw [FR _ _ (by omega), ← hV.ev]
      exact hW.2.2.2.2.2.2 _ _ d0 (by rw [v2]; exact d1) ht.1 (by rw [v1]; exact ht.2)
    have hj2 : judT V2 m = tgt V.C ((m : Int) % V.T.ng) := by
      unfold judT
      rw [v1, v2]
    have hjc : jc V2 1 1 m = if toldR V spot other m < 0 then -9 else toldR V spot other m := hce m (by omega) (by omega)
    have plc : f = -9 → -9 ≤ toldR V spot other m → toldR V spot other m < V.T.nd → Wk l E (lwY E Q b N xs) mL k j 602 [(0, .ref b), (1, .ref x), (2, .ref (x + 167)), (3, .ref (x + 168)), (4, .ref (x + 169)), (5, .int (zI cd)), (6, .int (zI V.T.ng)), (7, .ref (x + 170)), (8, .ref (x + 171)), (9, .ref (x + 172)), (10, .int (zI tn)), (11, .int (zI v11)), (13, .int (zI (V.C.co * V.T.ng))), (14, .int (zI spot)), (15, .int (zI other)), (16, .ref aL), (17, .int (zI f)), (18, .int (zI m)), (19, .int (zI (tgt V.C ((m : Int) % V.T.ng))))] [.int (zI (toldR V spot other m))] (n, sh, I1, L, R) := fun z z1 z2 => sp_place (v19 := 0) hk hj hL hal cL hp hV hok hC hA FR (by omega) (by omega) (hLf z) hj2 ht hjc ⟨z1, z2⟩ (fun I3 f' g1 g2 g3 => ih I3 f' g1 g2 g3)
    refine wk_iload (i := 18) (q := 547) dL_law_545 rfl rfl ?_
    refine wk_iload (i := 13) (q := 549) dL_law_547 rfl rfl ?_
    refine wk_icmp_ge (t := 732) (q := 552) dL_law_549 rfl rfl (by omega) (by omega) (fun hc549 => ?_) (fun hc549 => ?_)
    · first
      | omega
      | exact stop (by omega)
    · refine wk_iload (i := 17) (q := 554) dL_law_552 rfl rfl ?_
      refine wk_if_ge (t := 732) (q := 557) dL_law_554 rfl rfl (by omega) (fun hc554 => ?_) (fun hc554 => ?_)
      · first
        | omega
        | exact stop (by omega)
      · refine wk_aload_n (i := 2) (q := 558) dL_law_557 rfl rfl rfl ?_
        refine wk_bipush (q := 560) dL_law_558 rfl (by decide +kernel) ?_
        refine wk_iload (i := 18) (q := 562) dL_law_560 rfl rfl ?_
        refine wk_iload (i := 6) (q := 564) dL_law_562 rfl rfl ?_
        refine wk_irem (q := 565) dL_law_564 rfl (by omega) (by omega) ?_
        refine wk_aload_n (i := 2) (q := 566) dL_law_565 rfl rfl rfl ?_
        refine wk_iconst (q := 567) dL_law_566 rfl ?_
        refine wk_iald (q := 568) dL_law_567 rfl cT (by omega) ?_
        rw [e2]
        refine wk_iadd (q := 569) dL_law_568 rfl ?_
        refine wk_iload (i := 6) (q := 571) dL_law_569 rfl rfl ?_
        refine wk_irem (q := 572) dL_law_571 rfl (by omega) (by omega) ?_
        refine wk_iadd (q := 573) dL_law_572 rfl ?_
        refine wk_iald (q := 574) dL_law_573 rfl cT (by omega) ?_
        rw [et]
        refine wk_istore (i := 19) (lo' := [(0, _), (1, _), (2, _), (3, _), (4, _), (5, _), (6, _), (7, _), (8, _), (9, _), (10, _), (11, _), (13, _), (14, _), (15, _), (16, _), (17, _), (18, _), (19, _)]) (q := 576) dL_law_574 rfl (by decide) rfl ?_
        refine wk_iload (i := 18) (q := 578) dL_law_576 rfl rfl ?_
        refine wk_iload (i := 14) (q := 580) dL_law_578 rfl rfl ?_
        refine wk_icmp_ne (t := 588) (q := 583) dL_law_580 rfl rfl (by omega) (by omega) (fun hc580 => ?_) (fun hc580 => ?_)
        · refine wk_aload (i := 9) (q := 590) dL_law_588 rfl rfl ?_
          refine wk_bipush (q := 592) dL_law_590 rfl (by decide +kernel) ?_
          refine wk_iload (i := 18) (q := 594) dL_law_592 rfl rfl ?_
          refine wk_iload (i := 6) (q := 596) dL_law_594 rfl rfl ?_
          refine wk_idiv (q := 597) dL_law_596 rfl (by omega) (by omega) ?_
          refine wk_imul (q := 598) dL_law_597 rfl ?_
          refine wk_iload (i := 19) (q := 600) dL_law_598 rfl rfl ?_
          refine wk_iadd (q := 601) dL_law_600 rfl ?_
          refine wk_iald (q := 602) dL_law_601 rfl cO (by omega) ?_
          first
          | (have p := plc (by omega)
             rw [show toldR V spot other m = other from if_pos (by omega)] at p
             exact p (by omega) (by omega))
          | (have p := plc (by omega)
             rw [show toldR V spot other m = (evV V).go ((m : Int) / V.T.ng) (tgt V.C ((m : Int) % V.T.ng)) from if_neg (by omega)] at p
             rw [eg]
             exact p (by omega) (by omega))
        · refine wk_iload (i := 15) (q := 585) dL_law_583 rfl rfl ?_
          refine wk_goto (t := 602) dL_law_585 rfl ?_
          first
          | (have p := plc (by omega)
             rw [show toldR V spot other m = other from if_pos (by omega)] at p
             exact p (by omega) (by omega))
          | (have p := plc (by omega)
             rw [show toldR V spot other m = (evV V).go ((m : Int) / V.T.ng) (tgt V.C ((m : Int) % V.T.ng)) from if_neg (by omega)] at p
             rw [eg]
             exact p (by omega) (by omega))
end LAW4
