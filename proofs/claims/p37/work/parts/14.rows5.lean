/-! ROWS: calls that make no cell, by their arguments and answers; arraycopy, min, max -/
def qV (n : Nat) (sh : qSh) (G : qI → qI → qR → Prop) : qPost := fun r S' => ∃ I' L' R', r = none ∧ S' = (n, sh, I', L', R') ∧ G I' L' R'
def qZ (n : Nat) (sh : qSh) (G : Int → qI → qI → qR → Prop) : qPost := fun r S' => ∃ v I' L' R', r = some (.int (zI v)) ∧ S' = (n, sh, I', L', R') ∧ G v I' L' R'
def qJ (n : Nat) (sh : qSh) (G : Int → qI → qI → qR → Prop) : qPost := fun r S' => ∃ v I' L' R', r = some (.long (zL v)) ∧ S' = (n, sh, I', L', R') ∧ G v I' L' R'
/-- an answer, and nothing is written -/
def qP (n : Nat) (sh : qSh) (I L : qI) (R : qR) (P : Int → Prop) : qPost := qZ n sh (fun v I' L' R' => I' = I ∧ L' = L ∧ R' = R ∧ P v)
def cpI (I : qI) (a b : Nat) (i j m : Int) : qI := fun c x => if c = b ∧ j ≤ x ∧ x < j + m then I a (i + (x - j)) else I c x
section QR5
variable {l : Launch} {E : qEv} {Y : qMo} {M : qMD} {k j : Nat} {pc q : Nat} {lo : List (Nat × Value)} {st : List Value} {n : Nat} {sh : qSh} {I L : qI} {R : qR}
theorem wk_cV0 {index d a c4 z : Nat} {Mc : qMD} {G : qI → qI → qR → Prop} (hd : decode M.2.1 pc = .ok (.invokevirtual index, 3)) (hq : pc + 3 = q) (hl : qVL M.1.cls index Mc 0) (hcls : ∃ T N, vwCl[c4]? = some (Mc.1.cls, T, N)) (hs : isC E.2.2 n sh a (c4 + 4) z)
    (hC : Ct l E d Mc (.ref a :: []) (n, sh, I, L, R) 0 0 (qV n sh G)) (hro : qRo Y Mc d k j 0 0) (hw : (st.map fun v => v.category).sum ≤ 8) (kk : ∀ I' L' R', G I' L' R' → Wk l E Y M k j q lo st (n, sh, I', L', R')) : Wk l E Y M k j pc lo (.ref a :: st) (n, sh, I, L, R) := by
  refine wk_inv (As := []) hd hq hl rfl hcls hs hC hro hw (fun r S' hF _ => ?_)
  obtain ⟨I', L', R', rfl, rfl, hG⟩ := hF
  exact kk I' L' R' hG
theorem wk_cZ0 {index d a c4 z : Nat} {Mc : qMD} {G : Int → qI → qI → qR → Prop} (hd : decode M.2.1 pc = .ok (.invokevirtual index, 3)) (hq : pc + 3 = q) (hl : qVL M.1.cls index Mc 0) (hcls : ∃ T N, vwCl[c4]? = some (Mc.1.cls, T, N)) (hs : isC E.2.2 n sh a (c4 + 4) z)
    (hC : Ct l E d Mc (.ref a :: []) (n, sh, I, L, R) 0 0 (qZ n sh G)) (hro : qRo Y Mc d k j 0 0) (hw : (st.map fun v => v.category).sum ≤ 8) (kk : ∀ v I' L' R', G v I' L' R' → Wk l E Y M k j q lo (.int (zI v) :: st) (n, sh, I', L', R')) : Wk l E Y M k j pc lo (.ref a :: st) (n, sh, I, L, R) := by
  refine wk_inv (As := []) hd hq hl rfl hcls hs hC hro hw (fun r S' hF _ => ?_)
  obtain ⟨v, I', L', R', rfl, rfl, hG⟩ := hF
  exact kk v I' L' R' hG
theorem wk_cJ0 {index d a c4 z : Nat} {Mc : qMD} {G : Int → qI → qI → qR → Prop} (hd : decode M.2.1 pc = .ok (.invokevirtual index, 3)) (hq : pc + 3 = q) (hl : qVL M.1.cls index Mc 0) (hcls : ∃ T N, vwCl[c4]? = some (Mc.1.cls, T, N)) (hs : isC E.2.2 n sh a (c4 + 4) z)
    (hC : Ct l E d Mc (.ref a :: []) (n, sh, I, L, R) 0 0 (qJ n sh G)) (hro : qRo Y Mc d k j 0 0) (hw : (st.map fun v => v.category).sum ≤ 8) (kk : ∀ v I' L' R', G v I' L' R' → Wk l E Y M k j q lo (.long (zL v) :: st) (n, sh, I', L', R')) : Wk l E Y M k j pc lo (.ref a :: st) (n, sh, I, L, R) := by
  refine wk_inv (As := []) hd hq hl rfl hcls hs hC hro hw (fun r S' hF _ => ?_)
  obtain ⟨v, I', L', R', rfl, rfl, hG⟩ := hF
  exact kk v I' L' R' hG
theorem wk_cP0 {index d a c4 z : Nat} {Mc : qMD} {P : Int → Prop} (hd : decode M.2.1 pc = .ok (.invokevirtual index, 3)) (hq : pc + 3 = q) (hl : qVL M.1.cls index Mc 0) (hcls : ∃ T N, vwCl[c4]? = some (Mc.1.cls, T, N)) (hs : isC E.2.2 n sh a (c4 + 4) z)
    (hC : Ct l E d Mc (.ref a :: []) (n, sh, I, L, R) 0 0 (qP n sh I L R P)) (hro : qRo Y Mc d k j 0 0) (hw : (st.map fun v => v.category).sum ≤ 8) (kk : ∀ v, P v → Wk l E Y M k j q lo (.int (zI v) :: st) (n, sh, I, L, R)) : Wk l E Y M k j pc lo (.ref a :: st) (n, sh, I, L, R) := by
  refine wk_inv (As := []) hd hq hl rfl hcls hs hC hro hw (fun r S' hF _ => ?_)
  obtain ⟨v, I', L', R', rfl, rfl, rfl, rfl, rfl, hG⟩ := hF
  exact kk v hG
theorem wk_cV1 {index d a c4 z : Nat} {Mc : qMD} {v1 : Value} {G : qI → qI → qR → Prop} (hd : decode M.2.1 pc = .ok (.invokevirtual index, 3)) (hq : pc + 3 = q) (hl : qVL M.1.cls index Mc 1) (hcls : ∃ T N, vwCl[c4]? = some (Mc.1.cls, T, N)) (hs : isC E.2.2 n sh a (c4 + 4) z)
    (hC : Ct l E d Mc (.ref a :: [v1]) (n, sh, I, L, R) 0 0 (qV n sh G)) (hro : qRo Y Mc d k j 0 0) (hw : (st.map fun v => v.category).sum ≤ 8) (kk : ∀ I' L' R', G I' L' R' → Wk l E Y M k j q lo st (n, sh, I', L', R')) : Wk l E Y M k j pc lo (v1 :: .ref a :: st) (n, sh, I, L, R) := by
  refine wk_inv (As := [v1]) hd hq hl rfl hcls hs hC hro hw (fun r S' hF _ => ?_)
  obtain ⟨I', L', R', rfl, rfl, hG⟩ := hF
  exact kk I' L' R' hG
theorem wk_sV1 {index d : Nat} {Mc : qMD} {v1 : Value} {G : qI → qI → qR → Prop} (hd : decode M.2.1 pc = .ok (.invokestatic index, 3)) (hq : pc + 3 = q) (hl : qSL M.1.cls index Mc 1)
    (hC : Ct l E d Mc [v1] (n, sh, I, L, R) 0 0 (qV n sh G)) (hro : qRo Y Mc d k j 0 0) (hw : (st.map fun v => v.category).sum ≤ 8) (kk : ∀ I' L' R', G I' L' R' → Wk l E Y M k j q lo st (n, sh, I', L', R')) : Wk l E Y M k j pc lo (v1 :: st) (n, sh, I, L, R) := by
  refine wk_ins (As := [v1]) hd hq hl rfl hC hro hw (fun r S' hF _ => ?_)
  obtain ⟨I', L', R', rfl, rfl, hG⟩ := hF
  exact kk I' L' R' hG
theorem wk_cZ1 {index d a c4 z : Nat} {Mc : qMD} {v1 : Value} {G : Int → qI → qI → qR → Prop} (hd : decode M.2.1 pc = .ok (.invokevirtual index, 3)) (hq : pc + 3 = q) (hl : qVL M.1.cls index Mc 1) (hcls : ∃ T N, vwCl[c4]? = some (Mc.1.cls, T, N)) (hs : isC E.2.2 n sh a (c4 + 4) z)
    (hC : Ct l E d Mc (.ref a :: [v1]) (n, sh, I, L, R) 0 0 (qZ n sh G)) (hro : qRo Y Mc d k j 0 0) (hw : (st.map fun v => v.category).sum ≤ 8) (kk : ∀ v I' L' R', G v I' L' R' → Wk l E Y M k j q lo (.int (zI v) :: st) (n, sh, I', L', R')) : Wk l E Y M k j pc lo (v1 :: .ref a :: st) (n, sh, I, L, R) := by
  refine wk_inv (As := [v1]) hd hq hl rfl hcls hs hC hro hw (fun r S' hF _ => ?_)
  obtain ⟨v, I', L', R', rfl, rfl, hG⟩ := hF
  exact kk v I' L' R' hG
theorem wk_sZ1 {index d : Nat} {Mc : qMD} {v1 : Value} {G : Int → qI → qI → qR → Prop} (hd : decode M.2.1 pc = .ok (.invokestatic index, 3)) (hq : pc + 3 = q) (hl : qSL M.1.cls index Mc 1)
    (hC : Ct l E d Mc [v1] (n, sh, I, L, R) 0 0 (qZ n sh G)) (hro : qRo Y Mc d k j 0 0) (hw : (st.map fun v => v.category).sum ≤ 8) (kk : ∀ v I' L' R', G v I' L' R' → Wk l E Y M k j q lo (.int (zI v) :: st) (n, sh, I', L', R')) : Wk l E Y M k j pc lo (v1 :: st) (n, sh, I, L, R) := by
  refine wk_ins (As := [v1]) hd hq hl rfl hC hro hw (fun r S' hF _ => ?_)
  obtain ⟨v, I', L', R', rfl, rfl, hG⟩ := hF
  exact kk v I' L' R' hG
theorem wk_cJ1 {index d a c4 z : Nat} {Mc : qMD} {v1 : Value} {G : Int → qI → qI → qR → Prop} (hd : decode M.2.1 pc = .ok (.invokevirtual index, 3)) (hq : pc + 3 = q) (hl : qVL M.1.cls index Mc 1) (hcls : ∃ T N, vwCl[c4]? = some (Mc.1.cls, T, N)) (hs : isC E.2.2 n sh a (c4 + 4) z)
    (hC : Ct l E d Mc (.ref a :: [v1]) (n, sh, I, L, R) 0 0 (qJ n sh G)) (hro : qRo Y Mc d k j 0 0) (hw : (st.map fun v => v.category).sum ≤ 8) (kk : ∀ v I' L' R', G v I' L' R' → Wk l E Y M k j q lo (.long (zL v) :: st) (n, sh, I', L', R')) : Wk l E Y M k j pc lo (v1 :: .ref a :: st) (n, sh, I, L, R) := by
  refine wk_inv (As := [v1]) hd hq hl rfl hcls hs hC hro hw (fun r S' hF _ => ?_)
  obtain ⟨v, I', L', R', rfl, rfl, hG⟩ := hF
  exact kk v I' L' R' hG
theorem wk_sJ1 {index d : Nat} {Mc : qMD} {v1 : Value} {G : Int → qI → qI → qR → Prop} (hd : decode M.2.1 pc = .ok (.invokestatic index, 3)) (hq : pc + 3 = q) (hl : qSL M.1.cls index Mc 1)
    (hC : Ct l E d Mc [v1] (n, sh, I, L, R) 0 0 (qJ n sh G)) (hro : qRo Y Mc d k j 0 0) (hw : (st.map fun v => v.category).sum ≤ 8) (kk : ∀ v I' L' R', G v I' L' R' → Wk l E Y M k j q lo (.long (zL v) :: st) (n, sh, I', L', R')) : Wk l E Y M k j pc lo (v1 :: st) (n, sh, I, L, R) := by
  refine wk_ins (As := [v1]) hd hq hl rfl hC hro hw (fun r S' hF _ => ?_)
  obtain ⟨v, I', L', R', rfl, rfl, hG⟩ := hF
  exact kk v I' L' R' hG
theorem wk_cP1 {index d a c4 z : Nat} {Mc : qMD} {v1 : Value} {P : Int → Prop} (hd : decode M.2.1 pc = .ok (.invokevirtual index, 3)) (hq : pc + 3 = q) (hl : qVL M.1.cls index Mc 1) (hcls : ∃ T N, vwCl[c4]? = some (Mc.1.cls, T, N)) (hs : isC E.2.2 n sh a (c4 + 4) z)
    (hC : Ct l E d Mc (.ref a :: [v1]) (n, sh, I, L, R) 0 0 (qP n sh I L R P)) (hro : qRo Y Mc d k j 0 0) (hw : (st.map fun v => v.category).sum ≤ 8) (kk : ∀ v, P v → Wk l E Y M k j q lo (.int (zI v) :: st) (n, sh, I, L, R)) : Wk l E Y M k j pc lo (v1 :: .ref a :: st) (n, sh, I, L, R) := by
  refine wk_inv (As := [v1]) hd hq hl rfl hcls hs hC hro hw (fun r S' hF _ => ?_)
  obtain ⟨v, I', L', R', rfl, rfl, rfl, rfl, rfl, hG⟩ := hF
  exact kk v hG
theorem wk_sP1 {index d : Nat} {Mc : qMD} {v1 : Value} {P : Int → Prop} (hd : decode M.2.1 pc = .ok (.invokestatic index, 3)) (hq : pc + 3 = q) (hl : qSL M.1.cls index Mc 1)
    (hC : Ct l E d Mc [v1] (n, sh, I, L, R) 0 0 (qP n sh I L R P)) (hro : qRo Y Mc d k j 0 0) (hw : (st.map fun v => v.category).sum ≤ 8) (kk : ∀ v, P v → Wk l E Y M k j q lo (.int (zI v) :: st) (n, sh, I, L, R)) : Wk l E Y M k j pc lo (v1 :: st) (n, sh, I, L, R) := by
  refine wk_ins (As := [v1]) hd hq hl rfl hC hro hw (fun r S' hF _ => ?_)
  obtain ⟨v, I', L', R', rfl, rfl, rfl, rfl, rfl, hG⟩ := hF
  exact kk v hG
theorem wk_cV2 {index d a c4 z : Nat} {Mc : qMD} {v1 v2 : Value} {G : qI → qI → qR → Prop} (hd : decode M.2.1 pc = .ok (.invokevirtual index, 3)) (hq : pc + 3 = q) (hl : qVL M.1.cls index Mc 2) (hcls : ∃ T N, vwCl[c4]? = some (Mc.1.cls, T, N)) (hs : isC E.2.2 n sh a (c4 + 4) z)
    (hC : Ct l E d Mc (.ref a :: [v1, v2]) (n, sh, I, L, R) 0 0 (qV n sh G)) (hro : qRo Y Mc d k j 0 0) (hw : (st.map fun v => v.category).sum ≤ 8) (kk : ∀ I' L' R', G I' L' R' → Wk l E Y M k j q lo st (n, sh, I', L', R')) : Wk l E Y M k j pc lo (v2 :: v1 :: .ref a :: st) (n, sh, I, L, R) := by
  refine wk_inv (As := [v1, v2]) hd hq hl rfl hcls hs hC hro hw (fun r S' hF _ => ?_)
  obtain ⟨I', L', R', rfl, rfl, hG⟩ := hF
  exact kk I' L' R' hG
theorem wk_sV2 {index d : Nat} {Mc : qMD} {v1 v2 : Value} {G : qI → qI → qR → Prop} (hd : decode M.2.1 pc = .ok (.invokestatic index, 3)) (hq : pc + 3 = q) (hl : qSL M.1.cls index Mc 2)
    (hC : Ct l E d Mc [v1, v2] (n, sh, I, L, R) 0 0 (qV n sh G)) (hro : qRo Y Mc d k j 0 0) (hw : (st.map fun v => v.category).sum ≤ 8) (kk : ∀ I' L' R', G I' L' R' → Wk l E Y M k j q lo st (n, sh, I', L', R')) : Wk l E Y M k j pc lo (v2 :: v1 :: st) (n, sh, I, L, R) := by
  refine wk_ins (As := [v1, v2]) hd hq hl rfl hC hro hw (fun r S' hF _ => ?_)
  obtain ⟨I', L', R', rfl, rfl, hG⟩ := hF
  exact kk I' L' R' hG
theorem wk_cZ2 {index d a c4 z : Nat} {Mc : qMD} {v1 v2 : Value} {G : Int → qI → qI → qR → Prop} (hd : decode M.2.1 pc = .ok (.invokevirtual index, 3)) (hq : pc + 3 = q) (hl : qVL M.1.cls index Mc 2) (hcls : ∃ T N, vwCl[c4]? = some (Mc.1.cls, T, N)) (hs : isC E.2.2 n sh a (c4 + 4) z)
    (hC : Ct l E d Mc (.ref a :: [v1, v2]) (n, sh, I, L, R) 0 0 (qZ n sh G)) (hro : qRo Y Mc d k j 0 0) (hw : (st.map fun v => v.category).sum ≤ 8) (kk : ∀ v I' L' R', G v I' L' R' → Wk l E Y M k j q lo (.int (zI v) :: st) (n, sh, I', L', R')) : Wk l E Y M k j pc lo (v2 :: v1 :: .ref a :: st) (n, sh, I, L, R) := by
  refine wk_inv (As := [v1, v2]) hd hq hl rfl hcls hs hC hro hw (fun r S' hF _ => ?_)
  obtain ⟨v, I', L', R', rfl, rfl, hG⟩ := hF
  exact kk v I' L' R' hG
theorem wk_sZ2 {index d : Nat} {Mc : qMD} {v1 v2 : Value} {G : Int → qI → qI → qR → Prop} (hd : decode M.2.1 pc = .ok (.invokestatic index, 3)) (hq : pc + 3 = q) (hl : qSL M.1.cls index Mc 2)
    (hC : Ct l E d Mc [v1, v2] (n, sh, I, L, R) 0 0 (qZ n sh G)) (hro : qRo Y Mc d k j 0 0) (hw : (st.map fun v => v.category).sum ≤ 8) (kk : ∀ v I' L' R', G v I' L' R' → Wk l E Y M k j q lo (.int (zI v) :: st) (n, sh, I', L', R')) : Wk l E Y M k j pc lo (v2 :: v1 :: st) (n, sh, I, L, R) := by
  refine wk_ins (As := [v1, v2]) hd hq hl rfl hC hro hw (fun r S' hF _ => ?_)
  obtain ⟨v, I', L', R', rfl, rfl, hG⟩ := hF
  exact kk v I' L' R' hG
theorem wk_cJ2 {index d a c4 z : Nat} {Mc : qMD} {v1 v2 : Value} {G : Int → qI → qI → qR → Prop} (hd : decode M.2.1 pc = .ok (.invokevirtual index, 3)) (hq : pc + 3 = q) (hl : qVL M.1.cls index Mc 2) (hcls : ∃ T N, vwCl[c4]? = some (Mc.1.cls, T, N)) (hs : isC E.2.2 n sh a (c4 + 4) z)
    (hC : Ct l E d Mc (.ref a :: [v1, v2]) (n, sh, I, L, R) 0 0 (qJ n sh G)) (hro : qRo Y Mc d k j 0 0) (hw : (st.map fun v => v.category).sum ≤ 8) (kk : ∀ v I' L' R', G v I' L' R' → Wk l E Y M k j q lo (.long (zL v) :: st) (n, sh, I', L', R')) : Wk l E Y M k j pc lo (v2 :: v1 :: .ref a :: st) (n, sh, I, L, R) := by
  refine wk_inv (As := [v1, v2]) hd hq hl rfl hcls hs hC hro hw (fun r S' hF _ => ?_)
  obtain ⟨v, I', L', R', rfl, rfl, hG⟩ := hF
  exact kk v I' L' R' hG
theorem wk_sJ2 {index d : Nat} {Mc : qMD} {v1 v2 : Value} {G : Int → qI → qI → qR → Prop} (hd : decode M.2.1 pc = .ok (.invokestatic index, 3)) (hq : pc + 3 = q) (hl : qSL M.1.cls index Mc 2)
    (hC : Ct l E d Mc [v1, v2] (n, sh, I, L, R) 0 0 (qJ n sh G)) (hro : qRo Y Mc d k j 0 0) (hw : (st.map fun v => v.category).sum ≤ 8) (kk : ∀ v I' L' R', G v I' L' R' → Wk l E Y M k j q lo (.long (zL v) :: st) (n, sh, I', L', R')) : Wk l E Y M k j pc lo (v2 :: v1 :: st) (n, sh, I, L, R) := by
  refine wk_ins (As := [v1, v2]) hd hq hl rfl hC hro hw (fun r S' hF _ => ?_)
  obtain ⟨v, I', L', R', rfl, rfl, hG⟩ := hF
  exact kk v I' L' R' hG
theorem wk_cP2 {index d a c4 z : Nat} {Mc : qMD} {v1 v2 : Value} {P : Int → Prop} (hd : decode M.2.1 pc = .ok (.invokevirtual index, 3)) (hq : pc + 3 = q) (hl : qVL M.1.cls index Mc 2) (hcls : ∃ T N, vwCl[c4]? = some (Mc.1.cls, T, N)) (hs : isC E.2.2 n sh a (c4 + 4) z)
    (hC : Ct l E d Mc (.ref a :: [v1, v2]) (n, sh, I, L, R) 0 0 (qP n sh I L R P)) (hro : qRo Y Mc d k j 0 0) (hw : (st.map fun v => v.category).sum ≤ 8) (kk : ∀ v, P v → Wk l E Y M k j q lo (.int (zI v) :: st) (n, sh, I, L, R)) : Wk l E Y M k j pc lo (v2 :: v1 :: .ref a :: st) (n, sh, I, L, R) := by
  refine wk_inv (As := [v1, v2]) hd hq hl rfl hcls hs hC hro hw (fun r S' hF _ => ?_)
  obtain ⟨v, I', L', R', rfl, rfl, rfl, rfl, rfl, hG⟩ := hF
  exact kk v hG
theorem wk_sP2 {index d : Nat} {Mc : qMD} {v1 v2 : Value} {P : Int → Prop} (hd : decode M.2.1 pc = .ok (.invokestatic index, 3)) (hq : pc + 3 = q) (hl : qSL M.1.cls index Mc 2)
    (hC : Ct l E d Mc [v1, v2] (n, sh, I, L, R) 0 0 (qP n sh I L R P)) (hro : qRo Y Mc d k j 0 0) (hw : (st.map fun v => v.category).sum ≤ 8) (kk : ∀ v, P v → Wk l E Y M k j q lo (.int (zI v) :: st) (n, sh, I, L, R)) : Wk l E Y M k j pc lo (v2 :: v1 :: st) (n, sh, I, L, R) := by
  refine wk_ins (As := [v1, v2]) hd hq hl rfl hC hro hw (fun r S' hF _ => ?_)
  obtain ⟨v, I', L', R', rfl, rfl, rfl, rfl, rfl, hG⟩ := hF
  exact kk v hG
theorem wk_cV3 {index d a c4 z : Nat} {Mc : qMD} {v1 v2 v3 : Value} {G : qI → qI → qR → Prop} (hd : decode M.2.1 pc = .ok (.invokevirtual index, 3)) (hq : pc + 3 = q) (hl : qVL M.1.cls index Mc 3) (hcls : ∃ T N, vwCl[c4]? = some (Mc.1.cls, T, N)) (hs : isC E.2.2 n sh a (c4 + 4) z)
    (hC : Ct l E d Mc (.ref a :: [v1, v2, v3]) (n, sh, I, L, R) 0 0 (qV n sh G)) (hro : qRo Y Mc d k j 0 0) (hw : (st.map fun v => v.category).sum ≤ 8) (kk : ∀ I' L' R', G I' L' R' → Wk l E Y M k j q lo st (n, sh, I', L', R')) : Wk l E Y M k j pc lo (v3 :: v2 :: v1 :: .ref a :: st) (n, sh, I, L, R) := by
  refine wk_inv (As := [v1, v2, v3]) hd hq hl rfl hcls hs hC hro hw (fun r S' hF _ => ?_)
  obtain ⟨I', L', R', rfl, rfl, hG⟩ := hF
  exact kk I' L' R' hG
theorem wk_sV3 {index d : Nat} {Mc : qMD} {v1 v2 v3 : Value} {G : qI → qI → qR → Prop} (hd : decode M.2.1 pc = .ok (.invokestatic index, 3)) (hq : pc + 3 = q) (hl : qSL M.1.cls index Mc 3)
    (hC : Ct l E d Mc [v1, v2, v3] (n, sh, I, L, R) 0 0 (qV n sh G)) (hro : qRo Y Mc d k j 0 0) (hw : (st.map fun v => v.category).sum ≤ 8) (kk : ∀ I' L' R', G I' L' R' → Wk l E Y M k j q lo st (n, sh, I', L', R')) : Wk l E Y M k j pc lo (v3 :: v2 :: v1 :: st) (n, sh, I, L, R) := by
  refine wk_ins (As := [v1, v2, v3]) hd hq hl rfl hC hro hw (fun r S' hF _ => ?_)
  obtain ⟨I', L', R', rfl, rfl, hG⟩ := hF
  exact kk I' L' R' hG
theorem wk_cZ3 {index d a c4 z : Nat} {Mc : qMD} {v1 v2 v3 : Value} {G : Int → qI → qI → qR → Prop} (hd : decode M.2.1 pc = .ok (.invokevirtual index, 3)) (hq : pc + 3 = q) (hl : qVL M.1.cls index Mc 3) (hcls : ∃ T N, vwCl[c4]? = some (Mc.1.cls, T, N)) (hs : isC E.2.2 n sh a (c4 + 4) z)
    (hC : Ct l E d Mc (.ref a :: [v1, v2, v3]) (n, sh, I, L, R) 0 0 (qZ n sh G)) (hro : qRo Y Mc d k j 0 0) (hw : (st.map fun v => v.category).sum ≤ 8) (kk : ∀ v I' L' R', G v I' L' R' → Wk l E Y M k j q lo (.int (zI v) :: st) (n, sh, I', L', R')) : Wk l E Y M k j pc lo (v3 :: v2 :: v1 :: .ref a :: st) (n, sh, I, L, R) := by
  refine wk_inv (As := [v1, v2, v3]) hd hq hl rfl hcls hs hC hro hw (fun r S' hF _ => ?_)
  obtain ⟨v, I', L', R', rfl, rfl, hG⟩ := hF
  exact kk v I' L' R' hG
theorem wk_sZ3 {index d : Nat} {Mc : qMD} {v1 v2 v3 : Value} {G : Int → qI → qI → qR → Prop} (hd : decode M.2.1 pc = .ok (.invokestatic index, 3)) (hq : pc + 3 = q) (hl : qSL M.1.cls index Mc 3)
    (hC : Ct l E d Mc [v1, v2, v3] (n, sh, I, L, R) 0 0 (qZ n sh G)) (hro : qRo Y Mc d k j 0 0) (hw : (st.map fun v => v.category).sum ≤ 8) (kk : ∀ v I' L' R', G v I' L' R' → Wk l E Y M k j q lo (.int (zI v) :: st) (n, sh, I', L', R')) : Wk l E Y M k j pc lo (v3 :: v2 :: v1 :: st) (n, sh, I, L, R) := by
  refine wk_ins (As := [v1, v2, v3]) hd hq hl rfl hC hro hw (fun r S' hF _ => ?_)
  obtain ⟨v, I', L', R', rfl, rfl, hG⟩ := hF
  exact kk v I' L' R' hG
theorem wk_cJ3 {index d a c4 z : Nat} {Mc : qMD} {v1 v2 v3 : Value} {G : Int → qI → qI → qR → Prop} (hd : decode M.2.1 pc = .ok (.invokevirtual index, 3)) (hq : pc + 3 = q) (hl : qVL M.1.cls index Mc 3) (hcls : ∃ T N, vwCl[c4]? = some (Mc.1.cls, T, N)) (hs : isC E.2.2 n sh a (c4 + 4) z)
    (hC : Ct l E d Mc (.ref a :: [v1, v2, v3]) (n, sh, I, L, R) 0 0 (qJ n sh G)) (hro : qRo Y Mc d k j 0 0) (hw : (st.map fun v => v.category).sum ≤ 8) (kk : ∀ v I' L' R', G v I' L' R' → Wk l E Y M k j q lo (.long (zL v) :: st) (n, sh, I', L', R')) : Wk l E Y M k j pc lo (v3 :: v2 :: v1 :: .ref a :: st) (n, sh, I, L, R) := by
  refine wk_inv (As := [v1, v2, v3]) hd hq hl rfl hcls hs hC hro hw (fun r S' hF _ => ?_)
  obtain ⟨v, I', L', R', rfl, rfl, hG⟩ := hF
  exact kk v I' L' R' hG
theorem wk_sJ3 {index d : Nat} {Mc : qMD} {v1 v2 v3 : Value} {G : Int → qI → qI → qR → Prop} (hd : decode M.2.1 pc = .ok (.invokestatic index, 3)) (hq : pc + 3 = q) (hl : qSL M.1.cls index Mc 3)
    (hC : Ct l E d Mc [v1, v2, v3] (n, sh, I, L, R) 0 0 (qJ n sh G)) (hro : qRo Y Mc d k j 0 0) (hw : (st.map fun v => v.category).sum ≤ 8) (kk : ∀ v I' L' R', G v I' L' R' → Wk l E Y M k j q lo (.long (zL v) :: st) (n, sh, I', L', R')) : Wk l E Y M k j pc lo (v3 :: v2 :: v1 :: st) (n, sh, I, L, R) := by
  refine wk_ins (As := [v1, v2, v3]) hd hq hl rfl hC hro hw (fun r S' hF _ => ?_)
  obtain ⟨v, I', L', R', rfl, rfl, hG⟩ := hF
  exact kk v I' L' R' hG
theorem wk_cP3 {index d a c4 z : Nat} {Mc : qMD} {v1 v2 v3 : Value} {P : Int → Prop} (hd : decode M.2.1 pc = .ok (.invokevirtual index, 3)) (hq : pc + 3 = q) (hl : qVL M.1.cls index Mc 3) (hcls : ∃ T N, vwCl[c4]? = some (Mc.1.cls, T, N)) (hs : isC E.2.2 n sh a (c4 + 4) z)
    (hC : Ct l E d Mc (.ref a :: [v1, v2, v3]) (n, sh, I, L, R) 0 0 (qP n sh I L R P)) (hro : qRo Y Mc d k j 0 0) (hw : (st.map fun v => v.category).sum ≤ 8) (kk : ∀ v, P v → Wk l E Y M k j q lo (.int (zI v) :: st) (n, sh, I, L, R)) : Wk l E Y M k j pc lo (v3 :: v2 :: v1 :: .ref a :: st) (n, sh, I, L, R) := by
  refine wk_inv (As := [v1, v2, v3]) hd hq hl rfl hcls hs hC hro hw (fun r S' hF _ => ?_)
  obtain ⟨v, I', L', R', rfl, rfl, rfl, rfl, rfl, hG⟩ := hF
  exact kk v hG
theorem wk_sP3 {index d : Nat} {Mc : qMD} {v1 v2 v3 : Value} {P : Int → Prop} (hd : decode M.2.1 pc = .ok (.invokestatic index, 3)) (hq : pc + 3 = q) (hl : qSL M.1.cls index Mc 3)
    (hC : Ct l E d Mc [v1, v2, v3] (n, sh, I, L, R) 0 0 (qP n sh I L R P)) (hro : qRo Y Mc d k j 0 0) (hw : (st.map fun v => v.category).sum ≤ 8) (kk : ∀ v, P v → Wk l E Y M k j q lo (.int (zI v) :: st) (n, sh, I, L, R)) : Wk l E Y M k j pc lo (v3 :: v2 :: v1 :: st) (n, sh, I, L, R) := by
  refine wk_ins (As := [v1, v2, v3]) hd hq hl rfl hC hro hw (fun r S' hF _ => ?_)
  obtain ⟨v, I', L', R', rfl, rfl, rfl, rfl, rfl, hG⟩ := hF
  exact kk v hG
theorem wk_cV4 {index d a c4 z : Nat} {Mc : qMD} {v1 v2 v3 v4 : Value} {G : qI → qI → qR → Prop} (hd : decode M.2.1 pc = .ok (.invokevirtual index, 3)) (hq : pc + 3 = q) (hl : qVL M.1.cls index Mc 4) (hcls : ∃ T N, vwCl[c4]? = some (Mc.1.cls, T, N)) (hs : isC E.2.2 n sh a (c4 + 4) z)
    (hC : Ct l E d Mc (.ref a :: [v1, v2, v3, v4]) (n, sh, I, L, R) 0 0 (qV n sh G)) (hro : qRo Y Mc d k j 0 0) (hw : (st.map fun v => v.category).sum ≤ 8) (kk : ∀ I' L' R', G I' L' R' → Wk l E Y M k j q lo st (n, sh, I', L', R')) : Wk l E Y M k j pc lo (v4 :: v3 :: v2 :: v1 :: .ref a :: st) (n, sh, I, L, R) := by
  refine wk_inv (As := [v1, v2, v3, v4]) hd hq hl rfl hcls hs hC hro hw (fun r S' hF _ => ?_)
  obtain ⟨I', L', R', rfl, rfl, hG⟩ := hF
  exact kk I' L' R' hG
theorem wk_sV4 {index d : Nat} {Mc : qMD} {v1 v2 v3 v4 : Value} {G : qI → qI → qR → Prop} (hd : decode M.2.1 pc = .ok (.invokestatic index, 3)) (hq : pc + 3 = q) (hl : qSL M.1.cls index Mc 4)
    (hC : Ct l E d Mc [v1, v2, v3, v4] (n, sh, I, L, R) 0 0 (qV n sh G)) (hro : qRo Y Mc d k j 0 0) (hw : (st.map fun v => v.category).sum ≤ 8) (kk : ∀ I' L' R', G I' L' R' → Wk l E Y M k j q lo st (n, sh, I', L', R')) : Wk l E Y M k j pc lo (v4 :: v3 :: v2 :: v1 :: st) (n, sh, I, L, R) := by
  refine wk_ins (As := [v1, v2, v3, v4]) hd hq hl rfl hC hro hw (fun r S' hF _ => ?_)
  obtain ⟨I', L', R', rfl, rfl, hG⟩ := hF
  exact kk I' L' R' hG
theorem wk_cZ4 {index d a c4 z : Nat} {Mc : qMD} {v1 v2 v3 v4 : Value} {G : Int → qI → qI → qR → Prop} (hd : decode M.2.1 pc = .ok (.invokevirtual index, 3)) (hq : pc + 3 = q) (hl : qVL M.1.cls index Mc 4) (hcls : ∃ T N, vwCl[c4]? = some (Mc.1.cls, T, N)) (hs : isC E.2.2 n sh a (c4 + 4) z)
    (hC : Ct l E d Mc (.ref a :: [v1, v2, v3, v4]) (n, sh, I, L, R) 0 0 (qZ n sh G)) (hro : qRo Y Mc d k j 0 0) (hw : (st.map fun v => v.category).sum ≤ 8) (kk : ∀ v I' L' R', G v I' L' R' → Wk l E Y M k j q lo (.int (zI v) :: st) (n, sh, I', L', R')) : Wk l E Y M k j pc lo (v4 :: v3 :: v2 :: v1 :: .ref a :: st) (n, sh, I, L, R) := by
  refine wk_inv (As := [v1, v2, v3, v4]) hd hq hl rfl hcls hs hC hro hw (fun r S' hF _ => ?_)
  obtain ⟨v, I', L', R', rfl, rfl, hG⟩ := hF
  exact kk v I' L' R' hG
theorem wk_sZ4 {index d : Nat} {Mc : qMD} {v1 v2 v3 v4 : Value} {G : Int → qI → qI → qR → Prop} (hd : decode M.2.1 pc = .ok (.invokestatic index, 3)) (hq : pc + 3 = q) (hl : qSL M.1.cls index Mc 4)
    (hC : Ct l E d Mc [v1, v2, v3, v4] (n, sh, I, L, R) 0 0 (qZ n sh G)) (hro : qRo Y Mc d k j 0 0) (hw : (st.map fun v => v.category).sum ≤ 8) (kk : ∀ v I' L' R', G v I' L' R' → Wk l E Y M k j q lo (.int (zI v) :: st) (n, sh, I', L', R')) : Wk l E Y M k j pc lo (v4 :: v3 :: v2 :: v1 :: st) (n, sh, I, L, R) := by
  refine wk_ins (As := [v1, v2, v3, v4]) hd hq hl rfl hC hro hw (fun r S' hF _ => ?_)
  obtain ⟨v, I', L', R', rfl, rfl, hG⟩ := hF
  exact kk v I' L' R' hG
theorem wk_cJ4 {index d a c4 z : Nat} {Mc : qMD} {v1 v2 v3 v4 : Value} {G : Int → qI → qI → qR → Prop} (hd : decode M.2.1 pc = .ok (.invokevirtual index, 3)) (hq : pc + 3 = q) (hl : qVL M.1.cls index Mc 4) (hcls : ∃ T N, vwCl[c4]? = some (Mc.1.cls, T, N)) (hs : isC E.2.2 n sh a (c4 + 4) z)
    (hC : Ct l E d Mc (.ref a :: [v1, v2, v3, v4]) (n, sh, I, L, R) 0 0 (qJ n sh G)) (hro : qRo Y Mc d k j 0 0) (hw : (st.map fun v => v.category).sum ≤ 8) (kk : ∀ v I' L' R', G v I' L' R' → Wk l E Y M k j q lo (.long (zL v) :: st) (n, sh, I', L', R')) : Wk l E Y M k j pc lo (v4 :: v3 :: v2 :: v1 :: .ref a :: st) (n, sh, I, L, R) := by
  refine wk_inv (As := [v1, v2, v3, v4]) hd hq hl rfl hcls hs hC hro hw (fun r S' hF _ => ?_)
  obtain ⟨v, I', L', R', rfl, rfl, hG⟩ := hF
  exact kk v I' L' R' hG
theorem wk_sJ4 {index d : Nat} {Mc : qMD} {v1 v2 v3 v4 : Value} {G : Int → qI → qI → qR → Prop} (hd : decode M.2.1 pc = .ok (.invokestatic index, 3)) (hq : pc + 3 = q) (hl : qSL M.1.cls index Mc 4)
    (hC : Ct l E d Mc [v1, v2, v3, v4] (n, sh, I, L, R) 0 0 (qJ n sh G)) (hro : qRo Y Mc d k j 0 0) (hw : (st.map fun v => v.category).sum ≤ 8) (kk : ∀ v I' L' R', G v I' L' R' → Wk l E Y M k j q lo (.long (zL v) :: st) (n, sh, I', L', R')) : Wk l E Y M k j pc lo (v4 :: v3 :: v2 :: v1 :: st) (n, sh, I, L, R) := by
  refine wk_ins (As := [v1, v2, v3, v4]) hd hq hl rfl hC hro hw (fun r S' hF _ => ?_)
  obtain ⟨v, I', L', R', rfl, rfl, hG⟩ := hF
  exact kk v I' L' R' hG
theorem wk_cP4 {index d a c4 z : Nat} {Mc : qMD} {v1 v2 v3 v4 : Value} {P : Int → Prop} (hd : decode M.2.1 pc = .ok (.invokevirtual index, 3)) (hq : pc + 3 = q) (hl : qVL M.1.cls index Mc 4) (hcls : ∃ T N, vwCl[c4]? = some (Mc.1.cls, T, N)) (hs : isC E.2.2 n sh a (c4 + 4) z)
    (hC : Ct l E d Mc (.ref a :: [v1, v2, v3, v4]) (n, sh, I, L, R) 0 0 (qP n sh I L R P)) (hro : qRo Y Mc d k j 0 0) (hw : (st.map fun v => v.category).sum ≤ 8) (kk : ∀ v, P v → Wk l E Y M k j q lo (.int (zI v) :: st) (n, sh, I, L, R)) : Wk l E Y M k j pc lo (v4 :: v3 :: v2 :: v1 :: .ref a :: st) (n, sh, I, L, R) := by
  refine wk_inv (As := [v1, v2, v3, v4]) hd hq hl rfl hcls hs hC hro hw (fun r S' hF _ => ?_)
  obtain ⟨v, I', L', R', rfl, rfl, rfl, rfl, rfl, hG⟩ := hF
  exact kk v hG
theorem wk_sP4 {index d : Nat} {Mc : qMD} {v1 v2 v3 v4 : Value} {P : Int → Prop} (hd : decode M.2.1 pc = .ok (.invokestatic index, 3)) (hq : pc + 3 = q) (hl : qSL M.1.cls index Mc 4)
    (hC : Ct l E d Mc [v1, v2, v3, v4] (n, sh, I, L, R) 0 0 (qP n sh I L R P)) (hro : qRo Y Mc d k j 0 0) (hw : (st.map fun v => v.category).sum ≤ 8) (kk : ∀ v, P v → Wk l E Y M k j q lo (.int (zI v) :: st) (n, sh, I, L, R)) : Wk l E Y M k j pc lo (v4 :: v3 :: v2 :: v1 :: st) (n, sh, I, L, R) := by
  refine wk_ins (As := [v1, v2, v3, v4]) hd hq hl rfl hC hro hw (fun r S' hF _ => ?_)
  obtain ⟨v, I', L', R', rfl, rfl, rfl, rfl, rfl, hG⟩ := hF
  exact kk v hG
theorem wk_cV5 {index d a c4 z : Nat} {Mc : qMD} {v1 v2 v3 v4 v5 : Value} {G : qI → qI → qR → Prop} (hd : decode M.2.1 pc = .ok (.invokevirtual index, 3)) (hq : pc + 3 = q) (hl : qVL M.1.cls index Mc 5) (hcls : ∃ T N, vwCl[c4]? = some (Mc.1.cls, T, N)) (hs : isC E.2.2 n sh a (c4 + 4) z)
    (hC : Ct l E d Mc (.ref a :: [v1, v2, v3, v4, v5]) (n, sh, I, L, R) 0 0 (qV n sh G)) (hro : qRo Y Mc d k j 0 0) (hw : (st.map fun v => v.category).sum ≤ 8) (kk : ∀ I' L' R', G I' L' R' → Wk l E Y M k j q lo st (n, sh, I', L', R')) : Wk l E Y M k j pc lo (v5 :: v4 :: v3 :: v2 :: v1 :: .ref a :: st) (n, sh, I, L, R) := by
  refine wk_inv (As := [v1, v2, v3, v4, v5]) hd hq hl rfl hcls hs hC hro hw (fun r S' hF _ => ?_)
  obtain ⟨I', L', R', rfl, rfl, hG⟩ := hF
  exact kk I' L' R' hG
theorem wk_sV5 {index d : Nat} {Mc : qMD} {v1 v2 v3 v4 v5 : Value} {G : qI → qI → qR → Prop} (hd : decode M.2.1 pc = .ok (.invokestatic index, 3)) (hq : pc + 3 = q) (hl : qSL M.1.cls index Mc 5)
    (hC : Ct l E d Mc [v1, v2, v3, v4, v5] (n, sh, I, L, R) 0 0 (qV n sh G)) (hro : qRo Y Mc d k j 0 0) (hw : (st.map fun v => v.category).sum ≤ 8) (kk : ∀ I' L' R', G I' L' R' → Wk l E Y M k j q lo st (n, sh, I', L', R')) : Wk l E Y M k j pc lo (v5 :: v4 :: v3 :: v2 :: v1 :: st) (n, sh, I, L, R) := by
  refine wk_ins (As := [v1, v2, v3, v4, v5]) hd hq hl rfl hC hro hw (fun r S' hF _ => ?_)
  obtain ⟨I', L', R', rfl, rfl, hG⟩ := hF
  exact kk I' L' R' hG
theorem wk_cZ5 {index d a c4 z : Nat} {Mc : qMD} {v1 v2 v3 v4 v5 : Value} {G : Int → qI → qI → qR → Prop} (hd : decode M.2.1 pc = .ok (.invokevirtual index, 3)) (hq : pc + 3 = q) (hl : qVL M.1.cls index Mc 5) (hcls : ∃ T N, vwCl[c4]? = some (Mc.1.cls, T, N)) (hs : isC E.2.2 n sh a (c4 + 4) z)
    (hC : Ct l E d Mc (.ref a :: [v1, v2, v3, v4, v5]) (n, sh, I, L, R) 0 0 (qZ n sh G)) (hro : qRo Y Mc d k j 0 0) (hw : (st.map fun v => v.category).sum ≤ 8) (kk : ∀ v I' L' R', G v I' L' R' → Wk l E Y M k j q lo (.int (zI v) :: st) (n, sh, I', L', R')) : Wk l E Y M k j pc lo (v5 :: v4 :: v3 :: v2 :: v1 :: .ref a :: st) (n, sh, I, L, R) := by
  refine wk_inv (As := [v1, v2, v3, v4, v5]) hd hq hl rfl hcls hs hC hro hw (fun r S' hF _ => ?_)
  obtain ⟨v, I', L', R', rfl, rfl, hG⟩ := hF
  exact kk v I' L' R' hG
theorem wk_sZ5 {index d : Nat} {Mc : qMD} {v1 v2 v3 v4 v5 : Value} {G : Int → qI → qI → qR → Prop} (hd : decode M.2.1 pc = .ok (.invokestatic index, 3)) (hq : pc + 3 = q) (hl : qSL M.1.cls index Mc 5)
    (hC : Ct l E d Mc [v1, v2, v3, v4, v5] (n, sh, I, L, R) 0 0 (qZ n sh G)) (hro : qRo Y Mc d k j 0 0) (hw : (st.map fun v => v.category).sum ≤ 8) (kk : ∀ v I' L' R', G v I' L' R' → Wk l E Y M k j q lo (.int (zI v) :: st) (n, sh, I', L', R')) : Wk l E Y M k j pc lo (v5 :: v4 :: v3 :: v2 :: v1 :: st) (n, sh, I, L, R) := by
  refine wk_ins (As := [v1, v2, v3, v4, v5]) hd hq hl rfl hC hro hw (fun r S' hF _ => ?_)
  obtain ⟨v, I', L', R', rfl, rfl, hG⟩ := hF
  exact kk v I' L' R' hG
theorem wk_cJ5 {index d a c4 z : Nat} {Mc : qMD} {v1 v2 v3 v4 v5 : Value} {G : Int → qI → qI → qR → Prop} (hd : decode M.2.1 pc = .ok (.invokevirtual index, 3)) (hq : pc + 3 = q) (hl : qVL M.1.cls index Mc 5) (hcls : ∃ T N, vwCl[c4]? = some (Mc.1.cls, T, N)) (hs : isC E.2.2 n sh a (c4 + 4) z)
    (hC : Ct l E d Mc (.ref a :: [v1, v2, v3, v4, v5]) (n, sh, I, L, R) 0 0 (qJ n sh G)) (hro : qRo Y Mc d k j 0 0) (hw : (st.map fun v => v.category).sum ≤ 8) (kk : ∀ v I' L' R', G v I' L' R' → Wk l E Y M k j q lo (.long (zL v) :: st) (n, sh, I', L', R')) : Wk l E Y M k j pc lo (v5 :: v4 :: v3 :: v2 :: v1 :: .ref a :: st) (n, sh, I, L, R) := by
  refine wk_inv (As := [v1, v2, v3, v4, v5]) hd hq hl rfl hcls hs hC hro hw (fun r S' hF _ => ?_)
  obtain ⟨v, I', L', R', rfl, rfl, hG⟩ := hF
  exact kk v I' L' R' hG
theorem wk_sJ5 {index d : Nat} {Mc : qMD} {v1 v2 v3 v4 v5 : Value} {G : Int → qI → qI → qR → Prop} (hd : decode M.2.1 pc = .ok (.invokestatic index, 3)) (hq : pc + 3 = q) (hl : qSL M.1.cls index Mc 5)
    (hC : Ct l E d Mc [v1, v2, v3, v4, v5] (n, sh, I, L, R) 0 0 (qJ n sh G)) (hro : qRo Y Mc d k j 0 0) (hw : (st.map fun v => v.category).sum ≤ 8) (kk : ∀ v I' L' R', G v I' L' R' → Wk l E Y M k j q lo (.long (zL v) :: st) (n, sh, I', L', R')) : Wk l E Y M k j pc lo (v5 :: v4 :: v3 :: v2 :: v1 :: st) (n, sh, I, L, R) := by
  refine wk_ins (As := [v1, v2, v3, v4, v5]) hd hq hl rfl hC hro hw (fun r S' hF _ => ?_)
  obtain ⟨v, I', L', R', rfl, rfl, hG⟩ := hF
  exact kk v I' L' R' hG
theorem wk_cP5 {index d a c4 z : Nat} {Mc : qMD} {v1 v2 v3 v4 v5 : Value} {P : Int → Prop} (hd : decode M.2.1 pc = .ok (.invokevirtual index, 3)) (hq : pc + 3 = q) (hl : qVL M.1.cls index Mc 5) (hcls : ∃ T N, vwCl[c4]? = some (Mc.1.cls, T, N)) (hs : isC E.2.2 n sh a (c4 + 4) z)
    (hC : Ct l E d Mc (.ref a :: [v1, v2, v3, v4, v5]) (n, sh, I, L, R) 0 0 (qP n sh I L R P)) (hro : qRo Y Mc d k j 0 0) (hw : (st.map fun v => v.category).sum ≤ 8) (kk : ∀ v, P v → Wk l E Y M k j q lo (.int (zI v) :: st) (n, sh, I, L, R)) : Wk l E Y M k j pc lo (v5 :: v4 :: v3 :: v2 :: v1 :: .ref a :: st) (n, sh, I, L, R) := by
  refine wk_inv (As := [v1, v2, v3, v4, v5]) hd hq hl rfl hcls hs hC hro hw (fun r S' hF _ => ?_)
  obtain ⟨v, I', L', R', rfl, rfl, rfl, rfl, rfl, hG⟩ := hF
  exact kk v hG
theorem wk_sP5 {index d : Nat} {Mc : qMD} {v1 v2 v3 v4 v5 : Value} {P : Int → Prop} (hd : decode M.2.1 pc = .ok (.invokestatic index, 3)) (hq : pc + 3 = q) (hl : qSL M.1.cls index Mc 5)
    (hC : Ct l E d Mc [v1, v2, v3, v4, v5] (n, sh, I, L, R) 0 0 (qP n sh I L R P)) (hro : qRo Y Mc d k j 0 0) (hw : (st.map fun v => v.category).sum ≤ 8) (kk : ∀ v, P v → Wk l E Y M k j q lo (.int (zI v) :: st) (n, sh, I, L, R)) : Wk l E Y M k j pc lo (v5 :: v4 :: v3 :: v2 :: v1 :: st) (n, sh, I, L, R) := by
  refine wk_ins (As := [v1, v2, v3, v4, v5]) hd hq hl rfl hC hro hw (fun r S' hF _ => ?_)
  obtain ⟨v, I', L', R', rfl, rfl, rfl, rfl, rfl, hG⟩ := hF
  exact kk v hG
theorem w_ac_s : Cond.static arraycopyName ∈ qtb := (qtb_in 334 (by decide +kernel) (by decide +kernel))
theorem w_ac_n : Cond.native arraycopyName ∈ qtb := (qtb_in 335 (by decide +kernel) (by decide +kernel))
theorem w_ac_i : Cond.initialized "java/lang/System" ∈ qtb := (qtb_in 28 (by decide +kernel) (by decide +kernel))
theorem w_ac_4 : Cond.methodLink RX4 65 arraycopyName ∈ qtb := (qtb_in 333 (by decide +kernel) (by decide +kernel))
theorem zI_cl2 {e : Int} (h0 : 0 ≤ e) (h1 : e < 2147483648) : (zI e).toNatClampNeg = e.toNat := by
  have := zI_cl h0 h1
  omega
theorem zI_nn {e : Int} (h0 : 0 ≤ e) (h1 : e < 2147483648) : ¬ zI e < 0 := fun h => by
  rw [show (0 : Int32) = zI 0 from rfl] at h
  have := (zI_lt (a := e) (b := 0) ⟨by omega, h1⟩ ⟨by omega, by omega⟩).mp h
  omega
theorem wk_copy {index a b za zb : Nat} {i jj m : Int} (hd : decode M.2.1 pc = .ok (.invokestatic index, 3)) (hq : pc + 3 = q) (hw : Cond.methodLink M.1.cls index arraycopyName ∈ qtb) (hsa : isC E.2.2 n sh a 0 za) (hsb : isC E.2.2 n sh b 0 zb)
    (h0 : 0 ≤ i ∧ 0 ≤ jj ∧ 0 ≤ m) (h1 : i + m ≤ (za : Int)) (h2 : jj + m ≤ (zb : Int)) (hf : 1 ≤ Y.1.frames) (hlo : (st.map fun v => v.category).sum + (nativeFrameWords "java/lang/System" "arraycopy" 5 + 11) ≤ Y.1.locals)
    (h : Wk l E Y M k j q lo st (n, sh, cpI I a b i jj m, L, R)) : Wk l E Y M k j pc lo (.int (zI m) :: .int (zI jj) :: .ref b :: .int (zI i) :: .ref a :: st) (n, sh, I, L, R) := by
  subst hq
  obtain ⟨g1, g2, g3⟩ := h0
  have z1 := hsa.2.2.2
  have z2 := hsb.2.2.2
  intro p e s m0 args below meth c H locs ls hB hH hl
  have hea := qws_at (E := E) (S := (n, sh, I, L, R)) (isC.ad hsa)
  rw [qel_i hsa.2.2.1] at hea
  have heb := qws_at (E := E) (S := (n, sh, I, L, R)) (isC.ad hsb)
  rw [qel_i hsb.2.2.1] at heb
  have e1 := zI_cl2 g1 (by omega)
  have e2 := zI_cl2 g2 (by omega)
  have e3 := zI_cl2 g3 (by omega)
  have hset : (qws E (n, sh, I, L, R)).set (b - E.2.2) (b, .inl (E.2.1.1, zb, .inl (va_cpy (fun k : Nat => zI (I a k)) (fun k : Nat => zI (I b k)) (zI i).toNatClampNeg (zI jj).toNatClampNeg (zI m).toNatClampNeg))) = qws E (n, sh, cpI I a b i jj m, L, R) := by
    refine qws_set (isC.ad hsb) rfl ?_ (fun c hc => qel_same (fun x => by unfold cpI; rw [if_neg (fun q => hc q.1)]) (fun _ => rfl) (fun _ => rfl))
    rw [qel_i hsb.2.2.1, e1, e2, e3]
    refine congrArg (fun f => Sum.inl (E.2.1.1, zb, Sum.inl f)) (funext fun g => ?_)
    unfold va_cpy cpI
    by_cases hg : jj.toNat ≤ g ∧ g < jj.toNat + m.toNat
    · rw [if_pos hg, if_pos ⟨rfl, by omega, by omega⟩]
      exact congrArg (fun x => zI (I a x)) (by omega)
    · rw [if_neg hg, if_neg (fun q => hg ⟨by omega, by omega⟩)]
  refine va_copyi hB.1 hB.2.1 (hB.2.2.1.trans hl.1.symm) hB.2.2.2.2.1 (hB.ts hw) (hB.ts w_ac_n) (hB.ts w_ac_s) (hB.ts w_ac_i) hB.K.1 hH.2.1 (qD E _ (qA E) (fun _ h => h)) hH.2.2 (a - E.2.2) (b - E.2.2) 0 0 hea heb rfl rfl rfl
    (zI_nn g1 (by omega)) (zI_nn g2 (by omega)) (zI_nn g3 (by omega)) (by rw [e1, e3]; omega) (by rw [e2, e3]; omega) (fun _ _ => rfl) hf hlo hd (fun H1 locs1 hP1 _ hS1 => ?_)
  rw [hset] at hP1
  exact h p e s m0 args below meth c H1 locs1 ls hB ⟨hH.1, hP1, hS1⟩ hl
end QR5
