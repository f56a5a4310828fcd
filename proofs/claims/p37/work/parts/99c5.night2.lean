/-! THE LAW's evening: a seat, a course, all of it -/
theorem w_ai : Cond.arrayClass .int ∈ qtb := qtb_in 94 (by decide +kernel) (by decide +kernel)
section NIGHT2
variable {l : Launch} {E : qEv} {n nE : Nat} {sh : qSh} {I L : qI} {R : qR} {F : qPost}
theorem nt_seat {x aL : Nat} {T : TT} {C : CC} {la : Int → Int} {I1 : qI} {c s : Nat} {e : ES} (hT : T.ok) (hC : C.now T) (hA : tyA I (x + 167) (x + 168) (x + 169) T C la) (cT : isC E.2.2 n sh (x + 167) 0 51) (cW : isC E.2.2 n sh (x + 168) 0 42) (cU : isC E.2.2 n sh (x + 169) 0 42) (cG : isC E.2.2 n sh (x + 171) 0 14) (cO : isC E.2.2 n sh (x + 172) 0 56) (cL : isC E.2.2 n sh aL 0 6) (hal : aL ≠ x + 167 ∧ aL ≠ x + 168 ∧ aL ≠ x + 169 ∧ aL ≠ x + 171 ∧ aL ≠ x + 172)
    (hc : (c : Int) < C.co) (hs : (s : Int) < T.ng) (hNS : NS x aL T C I I1 c s e) (hE : ESok T e) (K : ∀ I3, NS x aL T C I I3 c ((s : Int) + 1) (askS T C c s e) → Wk l E (qmo E 1 nE 1 6 F) mL_night 1 6 432 [(0, .ref (x + 167)), (1, .ref (x + 168)), (2, .ref (x + 169)), (3, .int (zI T.ng)), (4, .int (zI (-1))), (5, .ref (x + 171)), (6, .ref (x + 172)), (7, .ref aL), (8, .int (zI c)), (9, .int (zI s))] [] (n, sh, I3, L, R)) : Wk l E (qmo E 1 nE 1 6 F) mL_night 1 6 76 [(0, .ref (x + 167)), (1, .ref (x + 168)), (2, .ref (x + 169)), (3, .int (zI T.ng)), (4, .int (zI (-1))), (5, .ref (x + 171)), (6, .ref (x + 172)), (7, .ref aL), (8, .int (zI c)), (9, .int (zI s))] [] (n, sh, I1, L, R) := by
  have hNS0 := hNS
  obtain ⟨n1, n2, n3, n4, n5⟩ := hNS
  obtain ⟨a0, a1, a2, a3, a4, a5, a6⟩ := hA
  have hCo := hC.1
  have hse := hC.2.1
  have hkd := hC.2.2.1
  have hsp := hC.2.2.2.1
  have hn2 := hT.1
  have hn7 := hT.2.1
  have hnd := hT.2.2.2.1
  have hnd0 := hT.2.2.1
  have zz := hCo
  obtain ⟨z1, z2, z3, z4, z5, z6, z7, z8, z9, z10, z11⟩ := zz
  have f0 : ∀ i, i < 44 → I1 (x + 167) i = I (x + 167) i := fun i hi => n1 _ _ (by omega) (by omega) (by omega) (by omega)
  have fW : ∀ i, I1 (x + 168) i = I (x + 168) i := fun i => n1 _ _ (by omega) (by omega) (by omega) (by omega)
  have fU : ∀ i, I1 (x + 169) i = I (x + 169) i := fun i => n1 _ _ (by omega) (by omega) (by omega) (by omega)
  have gb := od_in hCo (s := s) (by omega) (by omega)
  have hb := tgt_in hCo s
  have og : I1 (x + 167) (37 + s) = C.od s := (f0 _ (by omega)).trans (a5 s (by omega) (by omega)).2.2.2.1
  have ix := tgt_ix hCo (s := s)
  rw [hse] at ix
  have oh : I1 (x + 167) (37 + (s + C.st) % T.ng) = tgt C s := by
    rw [f0 _ (by omega), (a5 _ ix.1 ix.2).2.2.2.1]
    unfold tgt
    rw [hse]
  have o2 : I1 (x + 167) 2 = C.st := (f0 _ (by omega)).trans a2
  have o1 : I1 (x + 167) 1 = T.nd := (f0 _ (by omega)).trans a1
  have hbin := askD_in hT C c s e
  have htg : ∀ s' : Int, 0 ≤ s' → s' < s + 1 → 0 ≤ tgt C s' ∧ tgt C s' < T.ng := fun s' _ _ => tgt_in hCo s'
  obtain ⟨how, ehow⟩ : ∃ how, how = manner T C (spc C c) e.la (C.od s) := ⟨_, rfl⟩
  have eb : wish T C how (tgt C s) e.le = askD T C c s e := by rw [ehow]; rfl
  have nss : ∀ tv, ((askD T C c s e < 0 ∧ tv = 0) ∨ (0 ≤ askD T C c s e ∧ tv = T.wo (tgt C s) (askD T C c s e))) → _ := fun tv htv => NS.step hNS0 ⟨hal.1, hal.2.2.2.1, hal.2.2.2.2⟩ hn7 ⟨by omega, by omega⟩ htg gb hb rfl rfl rfl htv
  generalize hb0 : askD T C c s e = b at eb nss hbin
  generalize hg0 : C.od s = g at og gb ehow nss
  generalize hh0 : tgt C s = h at oh hb eb nss hbin
  have hsaw : ∀ d, 0 ≤ d → d < T.nd → I1 (x + 168) (6 * h + d) = T.wo h d ∧ I1 (x + 169) (6 * h + d) = C.sa h d := fun d d0 d1 => by
    rw [fW, fU]
    exact a6 h d hb.1 hb.2 d0 d1
  have okd : I1 (x + 167) (16 + g) = T.kd g := (f0 _ (by omega)).trans (a5 g gb.1 gb.2).1
  have okn : I1 (x + 167) (23 + g) = T.kn g := (f0 _ (by omega)).trans (a5 g gb.1 gb.2).2.1
  have oct : I1 (x + 167) (30 + g) = T.ct g := (f0 _ (by omega)).trans (a5 g gb.1 gb.2).2.2.1
  have ola := (n3 g gb.1 gb.2).1
  have hla := hE.2 g gb.1 gb.2
  have tg := hT.2.2.2.2.2 g gb.1 gb.2
  have kdg := hkd g
  have etr : trI I1 (x + 168) g (e.la g) = truly T g (e.la g) := by
    unfold trI truly
    by_cases q : e.la g < 0
    · rw [if_pos q, if_pos q]
    · rw [if_neg q, if_neg q, fW]
      exact (a6 g _ gb.1 gb.2 (by omega) hla.2).1
  have htr : -1 ≤ truly T g (e.la g) ∧ truly T g (e.la g) ≤ 9 := by
    unfold truly
    by_cases q : e.la g < 0
    · rw [if_pos q]
      omega
    · rw [if_neg q]
      exact tg.2.2.2.2.2.2 _ (by omega) hla.2
  have hhow : (C.kd g < 2 ∧ how = C.kd g) ∨ (C.kd g = 2 ∧ (e.la g ≠ -8 ∧ truly T g (e.la g) < T.ct g) ∧ how = 2) ∨ (C.kd g = 2 ∧ ¬ (e.la g ≠ -8 ∧ truly T g (e.la g) < T.ct g) ∧ how = 0) := by
    rw [ehow]
    unfold manner
    have q0 : g ≠ spc C c := by
      unfold spc
      split <;> omega
    rw [if_neg q0]
    by_cases q : C.kd g < 2
    · rw [if_pos q]
      exact Or.inl ⟨q, rfl⟩
    · rw [if_neg q]
      by_cases q2 : e.la g ≠ -8 ∧ truly T g (e.la g) < T.ct g
      · rw [if_pos q2]
        exact Or.inr (Or.inl ⟨by omega, q2, rfl⟩)
      · rw [if_neg q2]
        exact Or.inr (Or.inr ⟨by omega, q2, rfl⟩)
  have tail : ∀ hf v14 v15 : Int, Wk l E (qmo E 1 nE 1 6 F) mL_night 1 6 332 [(0, .ref (x + 167)), (1, .ref (x + 168)), (2, .ref (x + 169)), (3, .int (zI T.ng)), (4, .int (zI (-1))), (5, .ref (x + 171)), (6, .ref (x + 172)), (7, .ref aL), (8, .int (zI c)), (9, .int (zI s)), (10, .int (zI g)), (11, .int (zI h)), (12, .int (zI hf)), (13, .int (zI b)), (14, .int (zI v14)), (15, .int (zI v15))] [] (n, sh, I1, L, R) := by
    intro hf v14 v15
    obtain ⟨tv, etv⟩ : ∃ tv, tv = trI I1 (x + 168) h b := ⟨_, rfl⟩
    have htv : (b < 0 ∧ tv = 0) ∨ (0 ≤ b ∧ tv = T.wo h b) := by
      rw [etv]
      unfold trI
      rcases hbin with q | ⟨q0, q1, q2, q3⟩
      · rw [if_pos (by omega)]
        exact Or.inl ⟨by omega, rfl⟩
      · rw [if_neg (by omega)]
        exact Or.inr ⟨q0, (hsaw b q0 q1).1⟩
    have fin := nss tv htv
    have j1 : (up (up I1 (x + 172) (7 * c + h) b) (x + 167) (44 + h) b) (x + 171) h = e.gl h := by
      rw [up_na _ _ _ _ (by omega), up_na _ _ _ _ (by omega)]
      exact (n3 h hb.1 hb.2).2.1
    have jt2 : trI (up (up I1 (x + 172) (7 * c + h) b) (x + 167) (44 + h) b) (x + 168) h b = tv := by
      rw [etv]
      unfold trI
      rw [up_na _ _ _ _ (by omega), up_na _ _ _ _ (by omega)]
    have j2 : (up (up (up I1 (x + 172) (7 * c + h) b) (x + 167) (44 + h) b) (x + 171) h (e.gl h + 10 * tv)) (x + 171) g = u1 e.gl h (e.gl h + 10 * tv) g := by
      by_cases q : g = h
      · rw [q, up_eq, u1_eq]
      · rw [up_o2 (by omega), up_na _ _ _ _ (by omega), up_na _ _ _ _ (by omega), u1_ne q]
        exact (n3 g gb.1 gb.2).2.1
    have j3 : (up (up (up I1 (x + 172) (7 * c + h) b) (x + 167) (44 + h) b) (x + 171) h (e.gl h + 10 * tv)) (x + 167) (23 + g) = T.kn g := by
      rw [up_na _ _ _ _ (by omega), up_o2 (by omega), up_na _ _ _ _ (by omega)]
      exact okn
    have jt3 : trI (up (up (up I1 (x + 172) (7 * c + h) b) (x + 167) (44 + h) b) (x + 171) h (e.gl h + 10 * tv)) (x + 168) h b = tv := by
      rw [etv]
      unfold trI
      rw [up_na _ _ _ _ (by omega), up_na _ _ _ _ (by omega), up_na _ _ _ _ (by omega)]
    have j4 : 0 ≤ b → b < T.nd → (up (up (up (up I1 (x + 172) (7 * c + h) b) (x + 167) (44 + h) b) (x + 171) h (e.gl h + 10 * tv)) (x + 171) g (u1 e.gl h (e.gl h + 10 * tv) g + T.kn g * tv)) aL b = e.le b := fun q0 q1 => by
      rw [up_na _ _ _ _ (by omega), up_na _ _ _ _ (by omega), up_na _ _ _ _ (by omega), up_na _ _ _ _ (by omega)]
      exact n2 b q0 q1
    have j5 : (up (up (up (up (up I1 (x + 172) (7 * c + h) b) (x + 167) (44 + h) b) (x + 171) h (e.gl h + 10 * tv)) (x + 171) g (u1 e.gl h (e.gl h + 10 * tv) g + T.kn g * tv)) aL b (e.le b - 1)) (x + 171) (7 + g) = e.pa g := by
      rw [up_na _ _ _ _ (by omega), up_o2 (by omega), up_o2 (by omega), up_na _ _ _ _ (by omega), up_na _ _ _ _ (by omega)]
      exact (n3 g gb.1 gb.2).2.2
    have j6 : 0 ≤ b → b < T.nd → (up (up (up (up (up I1 (x + 172) (7 * c + h) b) (x + 167) (44 + h) b) (x + 171) h (e.gl h + 10 * tv)) (x + 171) g (u1 e.gl h (e.gl h + 10 * tv) g + T.kn g * tv)) aL b (e.le b - 1)) (x + 167) (10 + b) = T.pr b := fun q0 q1 => by
      rw [up_na _ _ _ _ (by omega), up_na _ _ _ _ (by omega), up_na _ _ _ _ (by omega), up_o2 (by omega), up_na _ _ _ _ (by omega), f0 _ (by omega)]
      exact (a4 b q0 q1).2
    refine wk_aload (i := 6) (q := 334) dL_night_332 rfl rfl ?_
    refine wk_bipush (q := 336) dL_night_334 rfl (by decide +kernel) ?_
    refine wk_iload (i := 8) (q := 338) dL_night_336 rfl rfl ?_
    refine wk_imul (q := 339) dL_night_338 rfl ?_
    refine wk_iload (i := 11) (q := 341) dL_night_339 rfl rfl ?_
    refine wk_iadd (q := 342) dL_night_341 rfl ?_
    refine wk_iload (i := 13) (q := 344) dL_night_342 rfl rfl ?_
    refine wk_iast (q := 345) dL_night_344 rfl cO (by omega) ?_
    refine wk_aload_n (i := 0) (q := 346) dL_night_345 rfl rfl rfl ?_
    refine wk_bipush (q := 348) dL_night_346 rfl (by decide +kernel) ?_
    refine wk_iload (i := 11) (q := 350) dL_night_348 rfl rfl ?_
    refine wk_iadd (q := 351) dL_night_350 rfl ?_
    refine wk_iload (i := 13) (q := 353) dL_night_351 rfl rfl ?_
    refine wk_iast (q := 354) dL_night_353 rfl cT (by omega) ?_
    refine wk_aload (i := 5) (q := 356) dL_night_354 rfl rfl ?_
    refine wk_iload (i := 11) (q := 358) dL_night_356 rfl rfl ?_
    refine wk_dup2 (q := 359) dL_night_358 rfl rfl rfl ?_
    refine wk_iald (q := 360) dL_night_359 rfl cG (by omega) ?_
    rw [j1]
    refine wk_bipush (q := 362) dL_night_360 rfl (by decide +kernel) ?_
    refine wk_aload_n (i := 1) (q := 363) dL_night_362 rfl rfl rfl ?_
    refine wk_iload (i := 11) (q := 365) dL_night_363 rfl rfl ?_
    refine wk_iload (i := 13) (q := 367) dL_night_365 rfl rfl ?_
    refine wk_sP3 (q := 370) dL_night_367 rfl sl_L_41 (ct_truly cW ⟨by omega, by omega⟩ ⟨by omega, by omega⟩) (qRo_m ok_L_truly (by decide) (Nat.le_refl _) (Nat.le_refl _)) (Nat.le_of_ble_eq_true rfl) (fun v367 hv367 => ?_)
    subst hv367
    rw [jt2]
    refine wk_imul (q := 371) dL_night_370 rfl ?_
    refine wk_iadd (q := 372) dL_night_371 rfl ?_
    refine wk_iast (q := 373) dL_night_372 rfl cG (by omega) ?_
    refine wk_aload (i := 5) (q := 375) dL_night_373 rfl rfl ?_
    refine wk_iload (i := 10) (q := 377) dL_night_375 rfl rfl ?_
    refine wk_dup2 (q := 378) dL_night_377 rfl rfl rfl ?_
    refine wk_iald (q := 379) dL_night_378 rfl cG (by omega) ?_
    rw [j2]
    refine wk_aload_n (i := 0) (q := 380) dL_night_379 rfl rfl rfl ?_
    refine wk_bipush (q := 382) dL_night_380 rfl (by decide +kernel) ?_
    refine wk_iload (i := 10) (q := 384) dL_night_382 rfl rfl ?_
    refine wk_iadd (q := 385) dL_night_384 rfl ?_
    refine wk_iald (q := 386) dL_night_385 rfl cT (by omega) ?_
    rw [j3]
    refine wk_aload_n (i := 1) (q := 387) dL_night_386 rfl rfl rfl ?_
    refine wk_iload (i := 11) (q := 389) dL_night_387 rfl rfl ?_
    refine wk_iload (i := 13) (q := 391) dL_night_389 rfl rfl ?_
    refine wk_sP3 (q := 394) dL_night_391 rfl sl_L_41 (ct_truly cW ⟨by omega, by omega⟩ ⟨by omega, by omega⟩) (qRo_m ok_L_truly (by decide) (Nat.le_refl _) (Nat.le_refl _)) (Nat.le_of_ble_eq_true rfl) (fun v391 hv391 => ?_)
    subst hv391
    rw [jt3]
    refine wk_imul (q := 395) dL_night_394 rfl ?_
    refine wk_iadd (q := 396) dL_night_395 rfl ?_
    refine wk_iast (q := 397) dL_night_396 rfl cG (by omega) ?_
    refine wk_iload (i := 13) (q := 399) dL_night_397 rfl rfl ?_
    refine wk_if_ge (t := 405) (q := 402) dL_night_399 rfl rfl (by omega) (fun hc399 => ?_) (fun hc399 => ?_)
    · refine wk_aload (i := 7) (q := 407) dL_night_405 rfl rfl ?_
      refine wk_iload (i := 13) (q := 409) dL_night_407 rfl rfl ?_
      refine wk_dup2 (q := 410) dL_night_409 rfl rfl rfl ?_
      refine wk_iald (q := 411) dL_night_410 rfl cL (by omega) ?_
      rw [j4 (by omega) (by omega)]
      refine wk_iconst (q := 412) dL_night_411 rfl ?_
      refine wk_isub (q := 413) dL_night_412 rfl ?_
      refine wk_iast (q := 414) dL_night_413 rfl cL (by omega) ?_
      refine wk_aload (i := 5) (q := 416) dL_night_414 rfl rfl ?_
      refine wk_bipush (q := 418) dL_night_416 rfl (by decide +kernel) ?_
      refine wk_iload (i := 10) (q := 420) dL_night_418 rfl rfl ?_
      refine wk_iadd (q := 421) dL_night_420 rfl ?_
      refine wk_dup2 (q := 422) dL_night_421 rfl rfl rfl ?_
      refine wk_iald (q := 423) dL_night_422 rfl cG (by omega) ?_
      rw [j5]
      refine wk_aload_n (i := 0) (q := 424) dL_night_423 rfl rfl rfl ?_
      refine wk_bipush (q := 426) dL_night_424 rfl (by decide +kernel) ?_
      refine wk_iload (i := 13) (q := 428) dL_night_426 rfl rfl ?_
      refine wk_iadd (q := 429) dL_night_428 rfl ?_
      refine wk_iald (q := 430) dL_night_429 rfl cT (by omega) ?_
      rw [j6 (by omega) (by omega)]
      refine wk_iadd (q := 431) dL_night_430 rfl ?_
      refine wk_iast (q := 432) dL_night_431 rfl cG (by omega) ?_
      refine wk_del (i := 15) (lo' := [(0, _), (1, _), (2, _), (3, _), (4, _), (5, _), (6, _), (7, _), (8, _), (9, _), (10, _), (11, _), (12, _), (13, _), (14, _)]) rfl ?_
      refine wk_del (i := 14) (lo' := [(0, _), (1, _), (2, _), (3, _), (4, _), (5, _), (6, _), (7, _), (8, _), (9, _), (10, _), (11, _), (12, _), (13, _)]) rfl ?_
      refine wk_del (i := 13) (lo' := [(0, _), (1, _), (2, _), (3, _), (4, _), (5, _), (6, _), (7, _), (8, _), (9, _), (10, _), (11, _), (12, _)]) rfl ?_
      refine wk_del (i := 12) (lo' := [(0, _), (1, _), (2, _), (3, _), (4, _), (5, _), (6, _), (7, _), (8, _), (9, _), (10, _), (11, _)]) rfl ?_
      refine wk_del (i := 11) (lo' := [(0, _), (1, _), (2, _), (3, _), (4, _), (5, _), (6, _), (7, _), (8, _), (9, _), (10, _)]) rfl ?_
      refine wk_del (i := 10) (lo' := [(0, _), (1, _), (2, _), (3, _), (4, _), (5, _), (6, _), (7, _), (8, _), (9, _)]) rfl ?_
      first
      | (rw [if_pos (by omega)] at fin; exact K _ fin)
      | (rw [if_neg (by omega)] at fin; exact K _ fin)
    · refine wk_goto (t := 432) dL_night_402 rfl ?_
      refine wk_del (i := 15) (lo' := [(0, _), (1, _), (2, _), (3, _), (4, _), (5, _), (6, _), (7, _), (8, _), (9, _), (10, _), (11, _), (12, _), (13, _), (14, _)]) rfl ?_
      refine wk_del (i := 14) (lo' := [(0, _), (1, _), (2, _), (3, _), (4, _), (5, _), (6, _), (7, _), (8, _), (9, _), (10, _), (11, _), (12, _), (13, _)]) rfl ?_
      refine wk_del (i := 13) (lo' := [(0, _), (1, _), (2, _), (3, _), (4, _), (5, _), (6, _), (7, _), (8, _), (9, _), (10, _), (11, _), (12, _)]) rfl ?_
      refine wk_del (i := 12) (lo' := [(0, _), (1, _), (2, _), (3, _), (4, _), (5, _), (6, _), (7, _), (8, _), (9, _), (10, _), (11, _)]) rfl ?_
      refine wk_del (i := 11) (lo' := [(0, _), (1, _), (2, _), (3, _), (4, _), (5, _), (6, _), (7, _), (8, _), (9, _), (10, _)]) rfl ?_
      refine wk_del (i := 10) (lo' := [(0, _), (1, _), (2, _), (3, _), (4, _), (5, _), (6, _), (7, _), (8, _), (9, _)]) rfl ?_
      first
      | (rw [if_pos (by omega)] at fin; exact K _ fin)
      | (rw [if_neg (by omega)] at fin; exact K _ fin)
  have dish : ∀ hf : Int, ((hf = 1 ∧ how = 2) ∨ (hf = 0 ∧ ((C.kd g = 1 ∧ how = 1) ∨ (C.kd g ≠ 1 ∧ how = 0)))) → Wk l E (qmo E 1 nE 1 6 F) mL_night 1 6 163 [(0, .ref (x + 167)), (1, .ref (x + 168)), (2, .ref (x + 169)), (3, .int (zI T.ng)), (4, .int (zI (-1))), (5, .ref (x + 171)), (6, .ref (x + 172)), (7, .ref aL), (8, .int (zI c)), (9, .int (zI s)), (10, .int (zI g)), (11, .int (zI h))] [.int (zI hf)] (n, sh, I1, L, R) := by
    intro hf hhf
    have w0 := nt_wish (l := l) (E := E) (Y := (qmo E 1 nE 1 6 F)) (k := 1) (j := 6) (L := L) (R := R) (le := e.le) (how := how) (c := c) (s := s) (hf := hf) hT hCo cT cW cU cG cO cL o1 (fun d d0 d1 => (f0 _ (by omega)).trans (a4 d d0 d1).2) (okd.trans kdg.symm) hsaw (fun d d0 d1 => ⟨n2 d d0 d1, hE.1 d d0 d1⟩) ⟨gb.1, by omega⟩ hb (by omega) hhf (fun v14 v15 => by rw [eb]; exact tail hf v14 v15)
    refine wk_istore (i := 12) (lo' := [(0, _), (1, _), (2, _), (3, _), (4, _), (5, _), (6, _), (7, _), (8, _), (9, _), (10, _), (11, _), (12, _)]) (q := 165) dL_night_163 rfl (by decide) rfl ?_
    exact w0
  refine wk_aload_n (i := 0) (q := 77) dL_night_76 rfl rfl rfl ?_
  refine wk_bipush (q := 79) dL_night_77 rfl (by decide +kernel) ?_
  refine wk_iload (i := 9) (q := 81) dL_night_79 rfl rfl ?_
  refine wk_iadd (q := 82) dL_night_81 rfl ?_
  refine wk_iald (q := 83) dL_night_82 rfl cT (by omega) ?_
  rw [og]
  refine wk_istore (i := 10) (lo' := [(0, _), (1, _), (2, _), (3, _), (4, _), (5, _), (6, _), (7, _), (8, _), (9, _), (10, _)]) (q := 85) dL_night_83 rfl (by decide) rfl ?_
  refine wk_aload_n (i := 0) (q := 86) dL_night_85 rfl rfl rfl ?_
  refine wk_bipush (q := 88) dL_night_86 rfl (by decide +kernel) ?_
  refine wk_iload (i := 9) (q := 90) dL_night_88 rfl rfl ?_
  refine wk_aload_n (i := 0) (q := 91) dL_night_90 rfl rfl rfl ?_
  refine wk_iconst (q := 92) dL_night_91 rfl ?_
  refine wk_iald (q := 93) dL_night_92 rfl cT (by omega) ?_
  rw [o2]
  refine wk_iadd (q := 94) dL_night_93 rfl ?_
  refine wk_iload_n (i := 3) (q := 95) dL_night_94 rfl rfl rfl ?_
  refine wk_irem (q := 96) dL_night_95 rfl (by omega) (by omega) ?_
  refine wk_iadd (q := 97) dL_night_96 rfl ?_
  refine wk_iald (q := 98) dL_night_97 rfl cT (by omega) ?_
  rw [oh]
  refine wk_istore (i := 11) (lo' := [(0, _), (1, _), (2, _), (3, _), (4, _), (5, _), (6, _), (7, _), (8, _), (9, _), (10, _), (11, _)]) (q := 100) dL_night_98 rfl (by decide) rfl ?_
  refine wk_iload (i := 8) (q := 102) dL_night_100 rfl rfl ?_
  refine wk_if_ne (t := 112) (q := 105) dL_night_102 rfl rfl (by omega) (fun hc102 => ?_) (fun hc102 => ?_)
  · refine wk_aload_n (i := 0) (q := 113) dL_night_112 rfl rfl rfl ?_
    refine wk_bipush (q := 115) dL_night_113 rfl (by decide +kernel) ?_
    refine wk_iload (i := 10) (q := 117) dL_night_115 rfl rfl ?_
    refine wk_iadd (q := 118) dL_night_117 rfl ?_
    refine wk_iald (q := 119) dL_night_118 rfl cT (by omega) ?_
    refine wk_iconst (q := 120) dL_night_119 rfl ?_
    refine wk_icmp_ne (t := 162) (q := 123) dL_night_120 rfl rfl (by omega) (by omega) (fun hc120 => ?_) (fun hc120 => ?_)
    · refine wk_iconst (q := 163) dL_night_162 rfl ?_
      first
      | exact dish 1 (by omega)
      | exact dish 0 (by omega)
    · refine wk_aload_n (i := 0) (q := 124) dL_night_123 rfl rfl rfl ?_
      refine wk_bipush (q := 126) dL_night_124 rfl (by decide +kernel) ?_
      refine wk_iload (i := 10) (q := 128) dL_night_126 rfl rfl ?_
      refine wk_iadd (q := 129) dL_night_128 rfl ?_
      refine wk_iald (q := 130) dL_night_129 rfl cT (by omega) ?_
      refine wk_bipush (q := 132) dL_night_130 rfl (by decide +kernel) ?_
      refine wk_icmp_eq (t := 162) (q := 135) dL_night_132 rfl rfl (by omega) (by omega) (fun hc132 => ?_) (fun hc132 => ?_)
      · refine wk_iconst (q := 163) dL_night_162 rfl ?_
        first
        | exact dish 1 (by omega)
        | exact dish 0 (by omega)
      · refine wk_aload_n (i := 1) (q := 136) dL_night_135 rfl rfl rfl ?_
        refine wk_iload (i := 10) (q := 138) dL_night_136 rfl rfl ?_
        refine wk_aload_n (i := 0) (q := 139) dL_night_138 rfl rfl rfl ?_
        refine wk_bipush (q := 141) dL_night_139 rfl (by decide +kernel) ?_
        refine wk_iload (i := 10) (q := 143) dL_night_141 rfl rfl ?_
        refine wk_iadd (q := 144) dL_night_143 rfl ?_
        refine wk_iald (q := 145) dL_night_144 rfl cT (by omega) ?_
        rw [ola]
        refine wk_sP3 (q := 148) dL_night_145 rfl sl_L_41 (ct_truly cW ⟨by omega, by omega⟩ ⟨by omega, by omega⟩) (qRo_m ok_L_truly (by decide) (Nat.le_refl _) (Nat.le_refl _)) (Nat.le_of_ble_eq_true rfl) (fun v145 hv145 => ?_)
        subst hv145
        rw [etr]
        refine wk_aload_n (i := 0) (q := 149) dL_night_148 rfl rfl rfl ?_
        refine wk_bipush (q := 151) dL_night_149 rfl (by decide +kernel) ?_
        refine wk_iload (i := 10) (q := 153) dL_night_151 rfl rfl ?_
        refine wk_iadd (q := 154) dL_night_153 rfl ?_
        refine wk_iald (q := 155) dL_night_154 rfl cT (by omega) ?_
        refine wk_icmp_ge (t := 162) (q := 158) dL_night_155 rfl rfl (by omega) (by omega) (fun hc155 => ?_) (fun hc155 => ?_)
        · refine wk_iconst (q := 163) dL_night_162 rfl ?_
          first
          | exact dish 1 (by omega)
          | exact dish 0 (by omega)
        · refine wk_iconst (q := 159) dL_night_158 rfl ?_
          refine wk_goto (t := 163) dL_night_159 rfl ?_
          first
          | exact dish 1 (by omega)
          | exact dish 0 (by omega)
  · refine wk_iload (i := 4) (q := 107) dL_night_105 rfl rfl ?_
    refine wk_iload (i := 10) (q := 109) dL_night_107 rfl rfl ?_
    refine wk_icmp_eq (t := 158) (q := 112) dL_night_109 rfl rfl (by omega) (by omega) (fun hc109 => ?_) (fun hc109 => ?_)
    · refine wk_iconst (q := 159) dL_night_158 rfl ?_
      refine wk_goto (t := 163) dL_night_159 rfl ?_
      first
      | exact dish 1 (by omega)
      | exact dish 0 (by omega)
    · refine wk_aload_n (i := 0) (q := 113) dL_night_112 rfl rfl rfl ?_
      refine wk_bipush (q := 115) dL_night_113 rfl (by decide +kernel) ?_
      refine wk_iload (i := 10) (q := 117) dL_night_115 rfl rfl ?_
      refine wk_iadd (q := 118) dL_night_117 rfl ?_
      refine wk_iald (q := 119) dL_night_118 rfl cT (by omega) ?_
      refine wk_iconst (q := 120) dL_night_119 rfl ?_
      refine wk_icmp_ne (t := 162) (q := 123) dL_night_120 rfl rfl (by omega) (by omega) (fun hc120 => ?_) (fun hc120 => ?_)
      · refine wk_iconst (q := 163) dL_night_162 rfl ?_
        first
        | exact dish 1 (by omega)
        | exact dish 0 (by omega)
      · refine wk_aload_n (i := 0) (q := 124) dL_night_123 rfl rfl rfl ?_
        refine wk_bipush (q := 126) dL_night_124 rfl (by decide +kernel) ?_
        refine wk_iload (i := 10) (q := 128) dL_night_126 rfl rfl ?_
        refine wk_iadd (q := 129) dL_night_128 rfl ?_
        refine wk_iald (q := 130) dL_night_129 rfl cT (by omega) ?_
        refine wk_bipush (q := 132) dL_night_130 rfl (by decide +kernel) ?_
        refine wk_icmp_eq (t := 162) (q := 135) dL_night_132 rfl rfl (by omega) (by omega) (fun hc132 => ?_) (fun hc132 => ?_)
        · refine wk_iconst (q := 163) dL_night_162 rfl ?_
          first
          | exact dish 1 (by omega)
          | exact dish 0 (by omega)
        · refine wk_aload_n (i := 1) (q := 136) dL_night_135 rfl rfl rfl ?_
          refine wk_iload (i := 10) (q := 138) dL_night_136 rfl rfl ?_
          refine wk_aload_n (i := 0) (q := 139) dL_night_138 rfl rfl rfl ?_
          refine wk_bipush (q := 141) dL_night_139 rfl (by decide +kernel) ?_
          refine wk_iload (i := 10) (q := 143) dL_night_141 rfl rfl ?_
          refine wk_iadd (q := 144) dL_night_143 rfl ?_
          refine wk_iald (q := 145) dL_night_144 rfl cT (by omega) ?_
          rw [ola]
          refine wk_sP3 (q := 148) dL_night_145 rfl sl_L_41 (ct_truly cW ⟨by omega, by omega⟩ ⟨by omega, by omega⟩) (qRo_m ok_L_truly (by decide) (Nat.le_refl _) (Nat.le_refl _)) (Nat.le_of_ble_eq_true rfl) (fun v145 hv145 => ?_)
          subst hv145
          rw [etr]
          refine wk_aload_n (i := 0) (q := 149) dL_night_148 rfl rfl rfl ?_
          refine wk_bipush (q := 151) dL_night_149 rfl (by decide +kernel) ?_
          refine wk_iload (i := 10) (q := 153) dL_night_151 rfl rfl ?_
          refine wk_iadd (q := 154) dL_night_153 rfl ?_
          refine wk_iald (q := 155) dL_night_154 rfl cT (by omega) ?_
          refine wk_icmp_ge (t := 162) (q := 158) dL_night_155 rfl rfl (by omega) (by omega) (fun hc155 => ?_) (fun hc155 => ?_)
          · refine wk_iconst (q := 163) dL_night_162 rfl ?_
            first
            | exact dish 1 (by omega)
            | exact dish 0 (by omega)
          · refine wk_iconst (q := 159) dL_night_158 rfl ?_
            refine wk_goto (t := 163) dL_night_159 rfl ?_
            first
            | exact dish 1 (by omega)
            | exact dish 0 (by omega)
theorem nt_course {x aL : Nat} {T : TT} {C : CC} {la : Int → Int} {c : Nat} {e0 : ES} (hT : T.ok) (hC : C.now T) (hA : tyA I (x + 167) (x + 168) (x + 169) T C la) (cT : isC E.2.2 n sh (x + 167) 0 51) (cW : isC E.2.2 n sh (x + 168) 0 42) (cU : isC E.2.2 n sh (x + 169) 0 42) (cG : isC E.2.2 n sh (x + 171) 0 14) (cO : isC E.2.2 n sh (x + 172) 0 56) (cL : isC E.2.2 n sh aL 0 6) (hal : aL ≠ x + 167 ∧ aL ≠ x + 168 ∧ aL ≠ x + 169 ∧ aL ≠ x + 171 ∧ aL ≠ x + 172)
    (hc : (c : Int) < C.co) (hE : ESok T e0) (K : ∀ I3, NS x aL T C I I3 c T.ng (askN T C c T.ng.toNat e0) → Wk l E (qmo E 1 nE 1 6 F) mL_night 1 6 438 [(0, .ref (x + 167)), (1, .ref (x + 168)), (2, .ref (x + 169)), (3, .int (zI T.ng)), (4, .int (zI (-1))), (5, .ref (x + 171)), (6, .ref (x + 172)), (7, .ref aL), (8, .int (zI c))] [] (n, sh, I3, L, R)) : ∀ s : Nat, s ≤ T.ng.toNat → ∀ I1, NS x aL T C I I1 c s (askN T C c s e0) → Wk l E (qmo E 1 nE 1 6 F) mL_night 1 6 70 [(0, .ref (x + 167)), (1, .ref (x + 168)), (2, .ref (x + 169)), (3, .int (zI T.ng)), (4, .int (zI (-1))), (5, .ref (x + 171)), (6, .ref (x + 172)), (7, .ref aL), (8, .int (zI c)), (9, .int (zI s))] [] (n, sh, I1, L, R) := by
  have hn2 := hT.1
  have hn7 := hT.2.1
  refine up_ind T.ng.toNat ?_ ?_
  · intro I1 hNS
    have e1 : ((T.ng.toNat : Nat) : Int) = T.ng := by omega
    rw [e1] at hNS
    refine wk_iload (i := 9) (q := 72) dL_night_70 rfl rfl ?_
    refine wk_iload_n (i := 3) (q := 73) dL_night_72 rfl rfl rfl ?_
    refine wk_icmp_ge (t := 438) (q := 76) dL_night_73 rfl rfl (by omega) (by omega) (fun hc73 => ?_) (fun hc73 => ?_)
    · refine wk_del (i := 9) (lo' := [(0, _), (1, _), (2, _), (3, _), (4, _), (5, _), (6, _), (7, _), (8, _)]) rfl ?_
      exact K _ hNS
    · omega
  · intro s hs ih I1 hNS
    have st := nt_seat (l := l) (E := E) (n := n) (nE := nE) (sh := sh) (L := L) (R := R) (F := F) hT hC hA cT cW cU cG cO cL hal hc (by omega : (s : Int) < T.ng) hNS (hE.askN hT s) (fun I3 h3 => by
      have ih' := ih I3 h3
      refine wk_iinc (lo' := [(0, _), (1, _), (2, _), (3, _), (4, _), (5, _), (6, _), (7, _), (8, _), (9, _)]) (q := 435) dL_night_432 rfl rfl (by decide) rfl ?_
      refine wk_goto (t := 70) dL_night_435 rfl ?_
      exact ih'
      )
    refine wk_iload (i := 9) (q := 72) dL_night_70 rfl rfl ?_
    refine wk_iload_n (i := 3) (q := 73) dL_night_72 rfl rfl rfl ?_
    refine wk_icmp_ge (t := 438) (q := 76) dL_night_73 rfl rfl (by omega) (by omega) (fun hc73 => ?_) (fun hc73 => ?_)
    · omega
    · exact st
theorem nt_all {x aL : Nat} {T : TT} {C : CC} {la : Int → Int} (hT : T.ok) (hC : C.now T) (hLA : LAok T la) (hA : tyA I (x + 167) (x + 168) (x + 169) T C la) (cT : isC E.2.2 n sh (x + 167) 0 51) (cW : isC E.2.2 n sh (x + 168) 0 42) (cU : isC E.2.2 n sh (x + 169) 0 42) (cG : isC E.2.2 n sh (x + 171) 0 14) (cO : isC E.2.2 n sh (x + 172) 0 56) (cL : isC E.2.2 n sh aL 0 6) (hal : aL ≠ x + 167 ∧ aL ≠ x + 168 ∧ aL ≠ x + 169 ∧ aL ≠ x + 171 ∧ aL ≠ x + 172)
    (K : ∀ I3, NS x aL T C I I3 C.co 0 (evE T C la) → Wk l E (qmo E 1 nE 1 6 F) mL_night 1 6 444 [(0, .ref (x + 167)), (1, .ref (x + 168)), (2, .ref (x + 169)), (3, .int (zI T.ng)), (4, .int (zI (-1))), (5, .ref (x + 171)), (6, .ref (x + 172)), (7, .ref aL), (8, .int (zI C.co))] [] (n, sh, I3, L, R)) : ∀ c : Nat, c ≤ C.co.toNat → ∀ I1, NS x aL T C I I1 c 0 (crsN T C c (ev0 T la)) → Wk l E (qmo E 1 nE 1 6 F) mL_night 1 6 59 [(0, .ref (x + 167)), (1, .ref (x + 168)), (2, .ref (x + 169)), (3, .int (zI T.ng)), (4, .int (zI (-1))), (5, .ref (x + 171)), (6, .ref (x + 172)), (7, .ref aL), (8, .int (zI c))] [] (n, sh, I1, L, R) := by
  have hn2 := hT.1
  have hn7 := hT.2.1
  have hCo := hC.1
  have hse := hC.2.1
  have z5 := hCo.2.2.2.2.1
  have z6 := hCo.2.2.2.2.2.1
  have e3 : ∀ I1 c s e, NS x aL T C I I1 c s e → I1 (x + 167) 3 = C.co := fun I1 c s e h => (h.1 _ _ (by omega) (by omega) (by omega) (by omega)).trans hA.2.2.2.1
  refine up_ind C.co.toNat ?_ ?_
  · intro I1 hNS
    have e1 : ((C.co.toNat : Nat) : Int) = C.co := by omega
    rw [e1] at hNS ⊢
    have q3 := e3 _ _ _ _ hNS
    refine wk_iload (i := 8) (q := 61) dL_night_59 rfl rfl ?_
    refine wk_aload_n (i := 0) (q := 62) dL_night_61 rfl rfl rfl ?_
    refine wk_iconst (q := 63) dL_night_62 rfl ?_
    refine wk_iald (q := 64) dL_night_63 rfl cT (by omega) ?_
    refine wk_icmp_ge (t := 444) (q := 67) dL_night_64 rfl rfl (by omega) (by omega) (fun hc64 => ?_) (fun hc64 => ?_)
    · exact K _ hNS
    · omega
  · intro c hc ih I1 hNS
    have q3 := e3 _ _ _ _ hNS
    have cr := nt_course (l := l) (E := E) (n := n) (nE := nE) (sh := sh) (L := L) (R := R) (F := F) hT hC hA cT cW cU cG cO cL hal (by omega : (c : Int) < C.co) (ESok.crs hT (ESok.ev0 hT hLA) c) (fun I3 h3 => by
      obtain ⟨m1, m2, m3, m4, m5⟩ := h3
      have h4 : NS x aL T C I I3 ((c + 1 : Nat) : Int) 0 (crsN T C (c + 1) (ev0 T la)) := by
        have e5 : crsN T C (c + 1) (ev0 T la) = askN T C c T.ng.toNat (crsN T C c (ev0 T la)) := by
          show askN T C c C.se.toNat _ = _
          rw [hse]
        rw [e5]
        refine ⟨m1, m2, m3, fun c' g c0 c1 g0 g1 => ?_, fun s' s0 s1 => by omega⟩
        by_cases q : c' = c
        · obtain ⟨s', s0, s1, s2⟩ := hC.all g0 g1
          rw [q, ← s2]
          exact m5 s' s0 (by omega)
        · exact m4 c' g c0 (by omega) g0 g1
      have ih' := ih I3 h4
      refine wk_iinc (lo' := [(0, _), (1, _), (2, _), (3, _), (4, _), (5, _), (6, _), (7, _), (8, _)]) (q := 441) dL_night_438 rfl rfl (by decide) rfl ?_
      refine wk_goto (t := 59) dL_night_441 rfl ?_
      exact ih'
      ) 0 (Nat.zero_le _) I1 hNS
    refine wk_iload (i := 8) (q := 61) dL_night_59 rfl rfl ?_
    refine wk_aload_n (i := 0) (q := 62) dL_night_61 rfl rfl rfl ?_
    refine wk_iconst (q := 63) dL_night_62 rfl ?_
    refine wk_iald (q := 64) dL_night_63 rfl cT (by omega) ?_
    refine wk_icmp_ge (t := 444) (q := 67) dL_night_64 rfl rfl (by omega) (by omega) (fun hc64 => ?_) (fun hc64 => ?_)
    · omega
    · refine wk_iconst (q := 68) dL_night_67 rfl ?_
      refine wk_istore (i := 9) (lo' := [(0, _), (1, _), (2, _), (3, _), (4, _), (5, _), (6, _), (7, _), (8, _), (9, _)]) (q := 70) dL_night_68 rfl (by decide) rfl ?_
      exact cr
end NIGHT2
section NIGHT3
variable {l : Launch} {E : qEv} {n : Nat} {sh : qSh} {I L : qI} {R : qR}
theorem ct_night {x : Nat} {T : TT} {C : CC} {la : Int → Int} (hT : T.ok) (hC : C.now T) (hLA : LAok T la) (hA : tyA I (x + 167) (x + 168) (x + 169) T C la) (cT : isC E.2.2 n sh (x + 167) 0 51) (cW : isC E.2.2 n sh (x + 168) 0 42) (cU : isC E.2.2 n sh (x + 169) 0 42) (cG : isC E.2.2 n sh (x + 171) 0 14) (cO : isC E.2.2 n sh (x + 172) 0 56) (hz : ∀ i, I (E.2.2 + n) i = 0) :
    Ct l E 1 mL_night [.ref (x + 167), .ref (x + 168), .ref (x + 169), .int (zI T.ng), .int (zI (-1)), .ref (x + 171), .ref (x + 172)] (n, sh, I, L, R) 1 6 (fun r S' => r = none ∧ ∃ I', S' = (n + 1, shu sh (E.2.2 + n) (0, 6), I', L, R) ∧ nfr x (E.2.2 + n) I I' ∧ (∀ g, 0 ≤ g → g < T.ng → I' (x + 167) (44 + g) = (evE T C la).la g ∧ I' (x + 171) g = (evE T C la).gl g ∧ I' (x + 171) (7 + g) = (evE T C la).pa g) ∧ ∀ c g, 0 ≤ c → c < C.co → 0 ≤ g → g < T.ng → I' (x + 172) (7 * c + g) = (evE T C la).go c g) := by
  have hn2 := hT.1
  have hn7 := hT.2.1
  have hnd := hT.2.2.2.1
  have hnd0 := hT.2.2.1
  have cT1 := cT.sh1 (v := (0, 6))
  have cW1 := cW.sh1 (v := (0, 6))
  have cU1 := cU.sh1 (v := (0, 6))
  have cG1 := cG.sh1 (v := (0, 6))
  have cO1 := cO.sh1 (v := (0, 6))
  have cL : isC E.2.2 (n + 1) (shu sh (E.2.2 + n) (0, 6)) (E.2.2 + n) 0 6 := isC.nw (by decide)
  have hal : E.2.2 + n ≠ x + 167 ∧ E.2.2 + n ≠ x + 168 ∧ E.2.2 + n ≠ x + 169 ∧ E.2.2 + n ≠ x + 171 ∧ E.2.2 + n ≠ x + 172 := by
    have q1 := cT.2.1
    have q2 := cW.2.1
    have q3 := cU.2.1
    have q4 := cG.2.1
    have q5 := cO.2.1
    omega
  have hA0 := hA
  obtain ⟨a0, a1, a2, a3, a4, a5, a6⟩ := hA
  have l3 := nt_all (l := l) (E := E) (n := n + 1) (nE := n + 1) (sh := shu sh (E.2.2 + n) (0, 6)) (L := L) (R := R) (F := (fun r S' => r = none ∧ ∃ I', S' = (n + 1, shu sh (E.2.2 + n) (0, 6), I', L, R) ∧ nfr x (E.2.2 + n) I I' ∧ (∀ g, 0 ≤ g → g < T.ng → I' (x + 167) (44 + g) = (evE T C la).la g ∧ I' (x + 171) g = (evE T C la).gl g ∧ I' (x + 171) (7 + g) = (evE T C la).pa g) ∧ ∀ c g, 0 ≤ c → c < C.co → 0 ≤ g → g < T.ng → I' (x + 172) (7 * c + g) = (evE T C la).go c g)) hT hC hLA hA0 cT1 cW1 cU1 cG1 cO1 cL hal (fun I3 h3 => by
    refine wk_ret dL_night_444 rfl ⟨Nat.le_refl _, Nat.le_refl _⟩ rfl ?_
    exact ⟨rfl, I3, rfl, h3.1, h3.2.2.1, h3.2.2.2.1⟩
    ) 0 (Nat.zero_le _)
  have l2 : ∀ m : Nat, m ≤ 14 → ∀ I1 : qI, (∀ b i, b ≠ E.2.2 + n → b ≠ x + 171 → I1 b i = I b i) → (∀ d, 0 ≤ d → d < T.nd → I1 (E.2.2 + n) d = T.mn d) → (∀ i : Int, 0 ≤ i → i < m → I1 (x + 171) i = 0) → Wk l E (qmo E 1 (n + 1) 1 6 (fun r S' => r = none ∧ ∃ I', S' = (n + 1, shu sh (E.2.2 + n) (0, 6), I', L, R) ∧ nfr x (E.2.2 + n) I I' ∧ (∀ g, 0 ≤ g → g < T.ng → I' (x + 167) (44 + g) = (evE T C la).la g ∧ I' (x + 171) g = (evE T C la).gl g ∧ I' (x + 171) (7 + g) = (evE T C la).pa g) ∧ ∀ c g, 0 ≤ c → c < C.co → 0 ≤ g → g < T.ng → I' (x + 172) (7 * c + g) = (evE T C la).go c g)) mL_night 1 6 37 [(0, .ref (x + 167)), (1, .ref (x + 168)), (2, .ref (x + 169)), (3, .int (zI T.ng)), (4, .int (zI (-1))), (5, .ref (x + 171)), (6, .ref (x + 172)), (7, .ref (E.2.2 + n)), (8, .int (zI m))] [] (n + 1, shu sh (E.2.2 + n) (0, 6), I1, L, R) := by
    refine up_ind 14 ?_ ?_
    · intro I1 h1 h2 h3
      have l3' := l3 I1 ⟨fun b i z1 z2 _ _ => h1 b i z1 z2, h2, fun g g0 g1 => ⟨(h1 _ _ (by omega) (by omega)).trans (a5 g g0 g1).2.2.2.2, h3 _ (by omega) (by omega), h3 _ (by omega) (by omega)⟩, fun c' g c0 c1 => by omega, fun s' s0 s1 => by omega⟩
      refine wk_iload (i := 8) (q := 39) dL_night_37 rfl rfl ?_
      refine wk_bipush (q := 41) dL_night_39 rfl (by decide +kernel) ?_
      refine wk_icmp_ge (t := 56) (q := 44) dL_night_41 rfl rfl (by omega) (by omega) (fun hc41 => ?_) (fun hc41 => ?_)
      · refine wk_iconst (q := 57) dL_night_56 rfl ?_
        refine wk_istore (i := 8) (lo' := [(0, _), (1, _), (2, _), (3, _), (4, _), (5, _), (6, _), (7, _), (8, _)]) (q := 59) dL_night_57 rfl (by decide) rfl ?_
        exact l3'
      · omega
    · intro m hm ih I1 h1 h2 h3
      have ih' := ih (up I1 (x + 171) m 0) (fun b i z1 z2 => (up_na _ _ _ _ z2).trans (h1 b i z1 z2)) (fun d d0 d1 => (up_na _ _ _ _ (by omega)).trans (h2 d d0 d1)) (fun i i0 i1 => by
        by_cases q : i = m
        · rw [q, up_eq]
        · rw [up_ni _ _ q]
          exact h3 i i0 (by omega))
      refine wk_iload (i := 8) (q := 39) dL_night_37 rfl rfl ?_
      refine wk_bipush (q := 41) dL_night_39 rfl (by decide +kernel) ?_
      refine wk_icmp_ge (t := 56) (q := 44) dL_night_41 rfl rfl (by omega) (by omega) (fun hc41 => ?_) (fun hc41 => ?_)
      · omega
      · refine wk_aload (i := 5) (q := 46) dL_night_44 rfl rfl ?_
        refine wk_iload (i := 8) (q := 48) dL_night_46 rfl rfl ?_
        refine wk_iconst (q := 49) dL_night_48 rfl ?_
        refine wk_iast (q := 50) dL_night_49 rfl cG1 (by omega) ?_
        refine wk_iinc (lo' := [(0, _), (1, _), (2, _), (3, _), (4, _), (5, _), (6, _), (7, _), (8, _)]) (q := 53) dL_night_50 rfl rfl (by decide) rfl ?_
        refine wk_goto (t := 37) dL_night_53 rfl ?_
        exact ih'
  have l1 : ∀ m : Nat, m ≤ T.nd.toNat → ∀ I1 : qI, (∀ b i, b ≠ E.2.2 + n → I1 b i = I b i) → (∀ d : Int, 0 ≤ d → d < m → I1 (E.2.2 + n) d = T.mn d) → Wk l E (qmo E 1 (n + 1) 1 6 (fun r S' => r = none ∧ ∃ I', S' = (n + 1, shu sh (E.2.2 + n) (0, 6), I', L, R) ∧ nfr x (E.2.2 + n) I I' ∧ (∀ g, 0 ≤ g → g < T.ng → I' (x + 167) (44 + g) = (evE T C la).la g ∧ I' (x + 171) g = (evE T C la).gl g ∧ I' (x + 171) (7 + g) = (evE T C la).pa g) ∧ ∀ c g, 0 ≤ c → c < C.co → 0 ≤ g → g < T.ng → I' (x + 172) (7 * c + g) = (evE T C la).go c g)) mL_night 1 6 9 [(0, .ref (x + 167)), (1, .ref (x + 168)), (2, .ref (x + 169)), (3, .int (zI T.ng)), (4, .int (zI (-1))), (5, .ref (x + 171)), (6, .ref (x + 172)), (7, .ref (E.2.2 + n)), (8, .int (zI m))] [] (n + 1, shu sh (E.2.2 + n) (0, 6), I1, L, R) := by
    refine up_ind T.nd.toNat ?_ ?_
    · intro I1 h1 h2
      have q1 : I1 (x + 167) 1 = T.nd := (h1 _ _ (by omega)).trans a1
      have l2' := l2 0 (Nat.zero_le _) I1 (fun b i z1 _ => h1 b i z1) (fun d d0 d1 => h2 d d0 (by omega)) (fun i i0 i1 => by omega)
      refine wk_iload (i := 8) (q := 11) dL_night_9 rfl rfl ?_
      refine wk_aload_n (i := 0) (q := 12) dL_night_11 rfl rfl rfl ?_
      refine wk_iconst (q := 13) dL_night_12 rfl ?_
      refine wk_iald (q := 14) dL_night_13 rfl cT1 (by omega) ?_
      refine wk_icmp_ge (t := 34) (q := 17) dL_night_14 rfl rfl (by omega) (by omega) (fun hc14 => ?_) (fun hc14 => ?_)
      · refine wk_iconst (q := 35) dL_night_34 rfl ?_
        refine wk_istore (i := 8) (lo' := [(0, _), (1, _), (2, _), (3, _), (4, _), (5, _), (6, _), (7, _), (8, _)]) (q := 37) dL_night_35 rfl (by decide) rfl ?_
        exact l2'
      · omega
    · intro m hm ih I1 h1 h2
      have q1 : I1 (x + 167) 1 = T.nd := (h1 _ _ (by omega)).trans a1
      have q4 : I1 (x + 167) (4 + m) = T.mn m := (h1 _ _ (by omega)).trans (a4 m (by omega) (by omega)).1
      have ih' := ih (up I1 (E.2.2 + n) m (T.mn m)) (fun b i z1 => (up_na _ _ _ _ z1).trans (h1 b i z1)) (fun d d0 d1 => by
        by_cases q : d = m
        · rw [q, up_eq]
        · rw [up_ni _ _ q]
          exact h2 d d0 (by omega))
      refine wk_iload (i := 8) (q := 11) dL_night_9 rfl rfl ?_
      refine wk_aload_n (i := 0) (q := 12) dL_night_11 rfl rfl rfl ?_
      refine wk_iconst (q := 13) dL_night_12 rfl ?_
      refine wk_iald (q := 14) dL_night_13 rfl cT1 (by omega) ?_
      refine wk_icmp_ge (t := 34) (q := 17) dL_night_14 rfl rfl (by omega) (by omega) (fun hc14 => ?_) (fun hc14 => ?_)
      · omega
      · refine wk_aload (i := 7) (q := 19) dL_night_17 rfl rfl ?_
        refine wk_iload (i := 8) (q := 21) dL_night_19 rfl rfl ?_
        refine wk_aload_n (i := 0) (q := 22) dL_night_21 rfl rfl rfl ?_
        refine wk_iconst (q := 23) dL_night_22 rfl ?_
        refine wk_iload (i := 8) (q := 25) dL_night_23 rfl rfl ?_
        refine wk_iadd (q := 26) dL_night_25 rfl ?_
        refine wk_iald (q := 27) dL_night_26 rfl cT1 (by omega) ?_
        rw [q4]
        refine wk_iast (q := 28) dL_night_27 rfl cL (by omega) ?_
        refine wk_iinc (lo' := [(0, _), (1, _), (2, _), (3, _), (4, _), (5, _), (6, _), (7, _), (8, _)]) (q := 31) dL_night_28 rfl rfl (by decide) rfl ?_
        refine wk_goto (t := 9) dL_night_31 rfl ?_
        exact ih'
  have l10 := l1 0 (Nat.zero_le _) I (fun _ _ _ => rfl) (fun d d0 d1 => by omega)
  refine Ct.of (lo := [(0, _), (1, _), (2, _), (3, _), (4, _), (5, _), (6, _)]) ok_L_night (Nat.le_of_ble_eq_true rfl) rfl ?_
  refine wk_bipush (q := 2) dL_night_0 rfl (by decide +kernel) ?_
  refine wk_newA (z := 6) (q := 4) dL_night_2 rfl w_ai rfl (by decide) hz (Nat.le_refl _) (Nat.le_refl _) ?_
  refine wk_astore (i := 7) (lo' := [(0, _), (1, _), (2, _), (3, _), (4, _), (5, _), (6, _), (7, _)]) (q := 6) dL_night_4 rfl (by decide) rfl ?_
  refine wk_iconst (q := 7) dL_night_6 rfl ?_
  refine wk_istore (i := 8) (lo' := [(0, _), (1, _), (2, _), (3, _), (4, _), (5, _), (6, _), (7, _), (8, _)]) (q := 9) dL_night_7 rfl (by decide) rfl ?_
  exact l10
end NIGHT3
