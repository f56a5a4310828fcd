/-! ROWS: fields and arrays of the pure heap -/
/-- a cell of the world: base, how many cells there are, their kinds; its address, kind (0 ints, 1 longs, 2 rows of ints, 3 sheets, 4 and a class's number), size -/
def isC (b n : Nat) (sh : qSh) (a kd z : Nat) : Prop := b ≤ a ∧ a < b + n ∧ sh a = (kd, z) ∧ z < 2147483648
theorem isC.ad {E : qEv} {n : Nat} {sh : qSh} {I L : qI} {R : qR} {a kd z : Nat} (h : isC E.2.2 n sh a kd z) : qad E (n, sh, I, L, R) a := ⟨h.1, h.2.1⟩
theorem qel_i {E : qEv} {n : Nat} {sh : qSh} {I L : qI} {R : qR} {a z : Nat} (h : sh a = (0, z)) : qel E (n, sh, I, L, R) a = .inl (E.2.1.1, z, .inl (fun k => zI (I a k))) := by
  unfold qel
  simp only [h]
theorem qel_l {E : qEv} {n : Nat} {sh : qSh} {I L : qI} {R : qR} {a z : Nat} (h : sh a = (1, z)) : qel E (n, sh, I, L, R) a = .inl (E.2.1.2.1, z, .inr (.inl (fun k => zL (L a k)))) := by
  unfold qel
  simp only [h]
theorem qel_r {E : qEv} {n : Nat} {sh : qSh} {I L : qI} {R : qR} {a z : Nat} (h : sh a = (2, z)) : qel E (n, sh, I, L, R) a = .inl (E.2.1.2.2.1, z, .inr (.inr (.inr (.inr (fun k => qrf (R a k)))))) := by
  unfold qel
  simp only [h]
theorem qel_s {E : qEv} {n : Nat} {sh : qSh} {I L : qI} {R : qR} {a z : Nat} (h : sh a = (3, z)) : qel E (n, sh, I, L, R) a = .inl (E.2.1.2.2.2, z, .inr (.inr (.inr (.inr (fun k => qrf (R a k)))))) := by
  unfold qel
  simp only [h]
theorem qel_o {E : qEv} {n : Nat} {sh : qSh} {I L : qI} {R : qR} {a c z : Nat} (h : sh a = (c + 4, z)) : qel E (n, sh, I, L, R) a = .inr (c, (List.range (qnf c)).map (fun k => qfv (qty c k) (I a k) (L a k) (R a k))) := by
  unfold qel
  simp only [h]
/-- what isn't written stays -/
theorem qel_same {E : qEv} {n : Nat} {sh : qSh} {I L I' L' : qI} {R R' : qR} {b : Nat} (hI : ∀ j, I' b j = I b j) (hL : ∀ j, L' b j = L b j) (hR : ∀ j, R' b j = R b j) : qel E (n, sh, I', L', R') b = qel E (n, sh, I, L, R) b := by
  unfold qel
  simp only [hI, hL, hR]
theorem qfs_set {N f : Nat} {g g' : Nat → Value} {v : Value} (hv : g' f = v) (ho : ∀ k, k ≠ f → g' k = g k) : ((List.range N).map g).set f v = (List.range N).map g' := by
  apply List.ext_getElem?
  intro k
  rw [List.getElem?_set, List.getElem?_map, List.getElem?_map]
  by_cases e : f = k
  · subst e
    rw [if_pos rfl, List.length_map, List.length_range]
    by_cases h : f < N
    · rw [if_pos h, List.getElem?_range h]
      show some v = some (g' f)
      rw [hv]
    · rw [if_neg h]
      simp [h]
  · rw [if_neg e]
    by_cases h : k < N
    · rw [List.getElem?_range h]
      show some (g k) = some (g' k)
      rw [ho k (fun q => e q.symm)]
    · simp [h]
section QR3
variable {l : Launch} {E : qEv} {Y : qMo} {M : qMD} {k j : Nat} {pc q : Nat} {lo : List (Nat × Value)} {st : List Value} {n : Nat} {sh : qSh} {I L : qI} {R : qR}
theorem qB.K {s : State} {p : Program} {m : MethodId} {args : Array Value} {meth : Method} {c : Code} (h : qB E Y M p s m args meth c) : qKs E s := h.2.2.2.2.2.2.2.2.1
theorem qB.ts {s : State} {p : Program} {m : MethodId} {args : Array Value} {meth : Method} {c : Code} (h : qB E Y M p s m args meth c) {w : Cond} (hw : w ∈ qtb) : w.before args s = true := h.2.2.2.2.2.2.1 _ (List.mem_cons_of_mem _ hw)
theorem qB.tq {s : State} {p : Program} {m : MethodId} {args : Array Value} {meth : Method} {c : Code} (h : qB E Y M p s m args meth c) : ∀ w ∈ qtb, w.before args s = true := fun _ hw => h.ts hw
/-- a field is read -/
theorem wk_get {index ci f a z : Nat} (hd : decode M.2.1 pc = .ok (.getfield index, 3)) (hq : pc + 3 = q) (hf : qFL M.1.cls index ci f) (hs : isC E.2.2 n sh a (ci + 4) z)
    (h : Wk l E Y M k j q lo (qfv (qty ci f) (I a f) (L a f) (R a f) :: st) (n, sh, I, L, R)) : Wk l E Y M k j pc lo (.ref a :: st) (n, sh, I, L, R) := by
  subst hq
  obtain ⟨C, T, N, ⟨c1, c2, c3, c4, c5⟩, hk, hw⟩ := hf
  intro p e s m args below meth c H locs ls hB hH hl
  have he := qws_at (E := E) (S := (n, sh, I, L, R)) (isC.ad hs)
  rw [qel_o hs.2.2.1] at he
  exact va_get hB.1 hB.2.1 hB.tq c3 hB.2.2.2.2.1 hB.K.1 hH.2.1 (a - E.2.2) he c1 f hk (hB.ts hw) (fun _ h9 => h9) (by rw [List.getElem?_map, List.getElem?_range (by omega)]; rfl) hd (h p e s m args below meth c H locs ls hB hH hl)
theorem wk_getI {index ci f a z : Nat} {fi : Int} (hd : decode M.2.1 pc = .ok (.getfield index, 3)) (hq : pc + 3 = q) (hf : qFL M.1.cls index ci f) (hty : qty ci f = .int) (hfi : ((f : Nat) : Int) = fi) (hs : isC E.2.2 n sh a (ci + 4) z)
    (h : Wk l E Y M k j q lo (.int (zI (I a fi)) :: st) (n, sh, I, L, R)) : Wk l E Y M k j pc lo (.ref a :: st) (n, sh, I, L, R) := by
  subst hfi
  refine wk_get hd hq hf hs ?_
  rw [hty]
  exact h
theorem wk_getZ {index ci f a z : Nat} {fi : Int} (hd : decode M.2.1 pc = .ok (.getfield index, 3)) (hq : pc + 3 = q) (hf : qFL M.1.cls index ci f) (hty : qty ci f = .boolean) (hfi : ((f : Nat) : Int) = fi) (hs : isC E.2.2 n sh a (ci + 4) z)
    (h : Wk l E Y M k j q lo (.int (zI (I a fi)) :: st) (n, sh, I, L, R)) : Wk l E Y M k j pc lo (.ref a :: st) (n, sh, I, L, R) := by
  subst hfi
  refine wk_get hd hq hf hs ?_
  rw [hty]
  exact h
theorem wk_getJ {index ci f a z : Nat} {fi : Int} (hd : decode M.2.1 pc = .ok (.getfield index, 3)) (hq : pc + 3 = q) (hf : qFL M.1.cls index ci f) (hty : qty ci f = .long) (hfi : ((f : Nat) : Int) = fi) (hs : isC E.2.2 n sh a (ci + 4) z)
    (h : Wk l E Y M k j q lo (.long (zL (L a fi)) :: st) (n, sh, I, L, R)) : Wk l E Y M k j pc lo (.ref a :: st) (n, sh, I, L, R) := by
  subst hfi
  refine wk_get hd hq hf hs ?_
  rw [hty]
  exact h
/-- the type is a reference's -/
def qisR : FieldType → Bool
  | .object _ => true
  | .array _ => true
  | _ => false
theorem qfv_r {ty : FieldType} (h : qisR ty = true) (i l : Int) (r : Nat) : qfv ty i l r = va_rf (qrf r) := by cases ty <;> first | rfl | cases h
theorem qrf_1 {r : Nat} (h : r ≠ 0) : va_rf (qrf r) = .ref r := by unfold qrf; rw [if_neg h]; rfl
theorem wk_getR {index ci f a z r : Nat} {fi : Int} (hd : decode M.2.1 pc = .ok (.getfield index, 3)) (hq : pc + 3 = q) (hf : qFL M.1.cls index ci f) (hty : qisR (qty ci f) = true) (hfi : ((f : Nat) : Int) = fi) (hs : isC E.2.2 n sh a (ci + 4) z) (hr : R a fi = r ∧ r ≠ 0)
    (h : Wk l E Y M k j q lo (.ref r :: st) (n, sh, I, L, R)) : Wk l E Y M k j pc lo (.ref a :: st) (n, sh, I, L, R) := by
  subst hfi
  refine wk_get hd hq hf hs ?_
  rw [qfv_r hty, hr.1, qrf_1 hr.2]
  exact h
/-- a field is written -/
theorem wk_put {index ci f a z : Nat} {v : Value} {I' L' : qI} {R' : qR} (hd : decode M.2.1 pc = .ok (.putfield index, 3)) (hq : pc + 3 = q) (hf : qFL M.1.cls index ci f) (hfw : qFW ci f) (hs : isC E.2.2 n sh a (ci + 4) z)
    (hn : narrow (qty ci f) v = v) (hfit : fits (qty ci f) v = true) (hv : qfv (qty ci f) (I' a f) (L' a f) (R' a f) = v)
    (ho : ∀ g : Nat, g ≠ f → I' a g = I a g ∧ L' a g = L a g ∧ R' a g = R a g) (hb : ∀ b i, b ≠ a → I' b i = I b i ∧ L' b i = L b i ∧ R' b i = R b i)
    (h : Wk l E Y M k j q lo st (n, sh, I', L', R')) : Wk l E Y M k j pc lo (v :: .ref a :: st) (n, sh, I, L, R) := by
  subst hq
  obtain ⟨C, T, N, ⟨c1, c2, c3, c4, c5⟩, hk, hw⟩ := hf
  obtain ⟨C2, T2, N2, d1, d2⟩ := hfw
  rw [c1] at d1
  cases d1
  intro p e s m args below meth c H locs ls hB hH hl
  have he := qws_at (E := E) (S := (n, sh, I, L, R)) (isC.ad hs)
  rw [qel_o hs.2.2.1] at he
  have hset : (qws E (n, sh, I, L, R)).set (a - E.2.2) (a, .inr (ci, ((List.range (qnf ci)).map (fun k => qfv (qty ci k) (I a k) (L a k) (R a k))).set f v)) = qws E (n, sh, I', L', R') := by
    refine qws_set (isC.ad hs) rfl ?_ (fun b hb' => qel_same (fun j => (hb b j hb').1) (fun j => (hb b j hb').2.1) (fun j => (hb b j hb').2.2))
    rw [qel_o hs.2.2.1]
    refine congrArg (fun z => Sum.inr (ci, z)) (qfs_set (g := fun k : Nat => qfv (qty ci k) (I a k) (L a k) (R a k)) (g' := fun k : Nat => qfv (qty ci k) (I' a k) (L' a k) (R' a k)) (f := f) (v := v) hv (fun g hg => ?_)).symm
    obtain ⟨e1, e2, e3⟩ := ho g hg
    show qfv (qty ci g) (I' a g) (L' a g) (R' a g) = qfv (qty ci g) (I a g) (L a g) (R a g)
    rw [e1, e2, e3]
  refine va_put hB.1 hB.2.1 hB.tq c3 (qty ci) c4 c5 hB.2.2.2.2.1 hB.K.1 hH.2.1 (qD E _ (qA E) (fun _ h => h)) hH.2.2 (a - E.2.2) he c1 f hk (hB.ts hw) (fun _ h9 => h9) d2 (c4 f hk) hn hfit (by rw [List.length_map, List.length_range]; omega) hd (fun H1 locs1 hP1 _ hS1 => ?_)
  rw [hset] at hP1
  exact h p e s m args below meth c H1 locs1 ls hB ⟨hH.1, hP1, hS1⟩ hl
theorem up_o {α : Type} (I : Nat → Int → α) (a f : Nat) (v : α) : ∀ g : Nat, g ≠ f → up I a f v a g = I a g := fun g hg => up_ni I v (fun e => hg (Int.ofNat.inj e))
theorem up_b {α : Type} (I : Nat → Int → α) (a : Nat) (f : Int) (v : α) : ∀ b i, b ≠ a → up I a f v b i = I b i := fun b i hb => up_na I f i v hb
theorem wk_putI {index ci f a z : Nat} {fi v : Int} (hd : decode M.2.1 pc = .ok (.putfield index, 3)) (hq : pc + 3 = q) (hf : qFL M.1.cls index ci f) (hfw : qFW ci f) (hty : qty ci f = .int) (hfi : ((f : Nat) : Int) = fi) (hs : isC E.2.2 n sh a (ci + 4) z)
    (h : Wk l E Y M k j q lo st (n, sh, up I a fi v, L, R)) : Wk l E Y M k j pc lo (.int (zI v) :: .ref a :: st) (n, sh, I, L, R) := by
  subst hfi
  exact wk_put hd hq hf hfw hs (by rw [hty]; rfl) (by rw [hty]; rfl) (by rw [hty, up_eq]; rfl) (fun g hg => ⟨up_o I a f v g hg, rfl, rfl⟩) (fun b i hb => ⟨up_b I a f v b i hb, rfl, rfl⟩) h
theorem zI_bit {v : Int} (hv : v = 0 ∨ v = 1) : narrow .boolean (.int (zI v)) = .int (zI v) ∧ fits .boolean (.int (zI v)) = true := by
  rcases hv with rfl | rfl <;> decide +kernel
theorem wk_putZ {index ci f a z : Nat} {fi v : Int} (hd : decode M.2.1 pc = .ok (.putfield index, 3)) (hq : pc + 3 = q) (hf : qFL M.1.cls index ci f) (hfw : qFW ci f) (hty : qty ci f = .boolean) (hv : v = 0 ∨ v = 1) (hfi : ((f : Nat) : Int) = fi) (hs : isC E.2.2 n sh a (ci + 4) z)
    (h : Wk l E Y M k j q lo st (n, sh, up I a fi v, L, R)) : Wk l E Y M k j pc lo (.int (zI v) :: .ref a :: st) (n, sh, I, L, R) := by
  subst hfi
  exact wk_put hd hq hf hfw hs (by rw [hty]; exact (zI_bit hv).1) (by rw [hty]; exact (zI_bit hv).2) (by rw [hty, up_eq]; rfl) (fun g hg => ⟨up_o I a f v g hg, rfl, rfl⟩) (fun b i hb => ⟨up_b I a f v b i hb, rfl, rfl⟩) h
theorem wk_putJ {index ci f a z : Nat} {fi v : Int} (hd : decode M.2.1 pc = .ok (.putfield index, 3)) (hq : pc + 3 = q) (hf : qFL M.1.cls index ci f) (hfw : qFW ci f) (hty : qty ci f = .long) (hfi : ((f : Nat) : Int) = fi) (hs : isC E.2.2 n sh a (ci + 4) z)
    (h : Wk l E Y M k j q lo st (n, sh, I, up L a fi v, R)) : Wk l E Y M k j pc lo (.long (zL v) :: .ref a :: st) (n, sh, I, L, R) := by
  subst hfi
  exact wk_put hd hq hf hfw hs (by rw [hty]; rfl) (by rw [hty]; rfl) (by rw [hty, up_eq]; rfl) (fun g hg => ⟨rfl, up_o L a f v g hg, rfl⟩) (fun b i hb => ⟨rfl, up_b L a f v b i hb, rfl⟩) h
theorem wk_putR {index ci f a z r : Nat} {fi : Int} (hd : decode M.2.1 pc = .ok (.putfield index, 3)) (hq : pc + 3 = q) (hf : qFL M.1.cls index ci f) (hfw : qFW ci f) (hty : qisR (qty ci f) = true) (hr : r ≠ 0) (hfi : ((f : Nat) : Int) = fi) (hs : isC E.2.2 n sh a (ci + 4) z)
    (h : Wk l E Y M k j q lo st (n, sh, I, L, up R a fi r)) : Wk l E Y M k j pc lo (.ref r :: .ref a :: st) (n, sh, I, L, R) := by
  subst hfi
  refine wk_put hd hq hf hfw hs ?_ ?_ (by rw [qfv_r hty, up_eq, qrf_1 hr]) (fun g hg => ⟨rfl, rfl, up_o R a f r g hg⟩) (fun b i hb => ⟨rfl, rfl, up_b R a f r b i hb⟩) h
  · generalize qty ci f = ty at hty ⊢
    cases ty <;> first | rfl | cases hty
  · generalize qty ci f = ty at hty ⊢
    cases ty <;> first | rfl | cases hty
/-- arrays of ints -/
theorem wk_iald {a z : Nat} {i : Int} (hd : decode M.2.1 pc = .ok (.iaload, 1)) (hq : pc + 1 = q) (hs : isC E.2.2 n sh a 0 z) (hi : 0 ≤ i ∧ i < (z : Int))
    (h : Wk l E Y M k j q lo (.int (zI (I a i)) :: st) (n, sh, I, L, R)) : Wk l E Y M k j pc lo (.int (zI i) :: .ref a :: st) (n, sh, I, L, R) := by
  subst hq
  have h31 : i < 2147483648 := by have := hs.2.2.2; omega
  intro p e s m args below meth c H locs ls hB hH hl
  have he := qws_at (E := E) (S := (n, sh, I, L, R)) (isC.ad hs)
  rw [qel_i hs.2.2.1] at he
  refine va_iald hB.1 hB.2.1 hB.K.1 hH.2.1 (a - E.2.2) 0 he rfl (zI_vp hi h31) hd ?_
  show W _ _ _ _ _ _ _ _ _ _ _ _ _ _ _ (F0 m (pc + 1) ls (.int (zI (I a (((zI i).toNatClampNeg : Nat) : Int))) :: st))
  rw [zI_cl hi.1 h31]
  exact h p e s m args below meth c H locs ls hB hH hl
theorem wk_iast {a z : Nat} {i v : Int} (hd : decode M.2.1 pc = .ok (.iastore, 1)) (hq : pc + 1 = q) (hs : isC E.2.2 n sh a 0 z) (hi : 0 ≤ i ∧ i < (z : Int))
    (h : Wk l E Y M k j q lo st (n, sh, up I a i v, L, R)) : Wk l E Y M k j pc lo (.int (zI v) :: .int (zI i) :: .ref a :: st) (n, sh, I, L, R) := by
  subst hq
  have h31 : i < 2147483648 := by have := hs.2.2.2; omega
  intro p e s m args below meth c H locs ls hB hH hl
  have he := qws_at (E := E) (S := (n, sh, I, L, R)) (isC.ad hs)
  rw [qel_i hs.2.2.1] at he
  have hset : (qws E (n, sh, I, L, R)).set (a - E.2.2) (a, .inl (E.2.1.1, z, .inl (upd (fun k : Nat => zI (I a k)) (zI i).toNatClampNeg (zI v)))) = qws E (n, sh, up I a i v, L, R) := by
    refine qws_set (isC.ad hs) rfl ?_ (fun b hb => qel_same (fun j => up_b I a i v b j hb) (fun _ => rfl) (fun _ => rfl))
    rw [qel_i hs.2.2.1]
    refine congrArg (fun f => Sum.inl (E.2.1.1, z, Sum.inl f)) (funext fun g => ?_)
    have hc := zI_cl hi.1 h31
    by_cases e : g = (zI i).toNatClampNeg
    · rw [show upd (fun k : Nat => zI (I a k)) (zI i).toNatClampNeg (zI v) g = zI v from if_pos e, e, hc, up_eq]
    · rw [show upd (fun k : Nat => zI (I a k)) (zI i).toNatClampNeg (zI v) g = zI (I a g) from if_neg e, up_ni I v (fun h => e (by omega))]
  refine va_iast hB.1 hB.2.1 hB.K.1 hH.2.1 (qD E _ (qA E) (fun _ h => h)) hH.2.2 (a - E.2.2) 0 he rfl (zI_vp hi h31) hd (fun H1 locs1 hP1 _ hS1 => ?_)
  rw [hset] at hP1
  exact h p e s m args below meth c H1 locs1 ls hB ⟨hH.1, hP1, hS1⟩ hl
theorem wk_lald {a z : Nat} {i : Int} (hd : decode M.2.1 pc = .ok (.laload, 1)) (hq : pc + 1 = q) (hs : isC E.2.2 n sh a 1 z) (hi : 0 ≤ i ∧ i < (z : Int))
    (h : Wk l E Y M k j q lo (.long (zL (L a i)) :: st) (n, sh, I, L, R)) : Wk l E Y M k j pc lo (.int (zI i) :: .ref a :: st) (n, sh, I, L, R) := by
  subst hq
  have h31 : i < 2147483648 := by have := hs.2.2.2; omega
  intro p e s m args below meth c H locs ls hB hH hl
  have he := qws_at (E := E) (S := (n, sh, I, L, R)) (isC.ad hs)
  rw [qel_l hs.2.2.1] at he
  refine va_lald hB.1 hB.2.1 hB.K.1 hH.2.1 (a - E.2.2) 1 he rfl (zI_vp hi h31) hd ?_
  show W _ _ _ _ _ _ _ _ _ _ _ _ _ _ _ (F0 m (pc + 1) ls (.long (zL (L a (((zI i).toNatClampNeg : Nat) : Int))) :: st))
  rw [zI_cl hi.1 h31]
  exact h p e s m args below meth c H locs ls hB hH hl
theorem wk_last {a z : Nat} {i v : Int} (hd : decode M.2.1 pc = .ok (.lastore, 1)) (hq : pc + 1 = q) (hs : isC E.2.2 n sh a 1 z) (hi : 0 ≤ i ∧ i < (z : Int))
    (h : Wk l E Y M k j q lo st (n, sh, I, up L a i v, R)) : Wk l E Y M k j pc lo (.long (zL v) :: .int (zI i) :: .ref a :: st) (n, sh, I, L, R) := by
  subst hq
  have h31 : i < 2147483648 := by have := hs.2.2.2; omega
  intro p e s m args below meth c H locs ls hB hH hl
  have he := qws_at (E := E) (S := (n, sh, I, L, R)) (isC.ad hs)
  rw [qel_l hs.2.2.1] at he
  have hset : (qws E (n, sh, I, L, R)).set (a - E.2.2) (a, .inl (E.2.1.2.1, z, .inr (.inl (vp_updL (fun k : Nat => zL (L a k)) (zI i).toNatClampNeg (zL v))))) = qws E (n, sh, I, up L a i v, R) := by
    refine qws_set (isC.ad hs) rfl ?_ (fun b hb => qel_same (fun _ => rfl) (fun j => up_b L a i v b j hb) (fun _ => rfl))
    rw [qel_l hs.2.2.1]
    refine congrArg (fun f => Sum.inl (E.2.1.2.1, z, Sum.inr (Sum.inl f))) (funext fun g => ?_)
    have hc := zI_cl hi.1 h31
    by_cases e : g = (zI i).toNatClampNeg
    · rw [show vp_updL (fun k : Nat => zL (L a k)) (zI i).toNatClampNeg (zL v) g = zL v from if_pos e, e, hc, up_eq]
    · rw [show vp_updL (fun k : Nat => zL (L a k)) (zI i).toNatClampNeg (zL v) g = zL (L a g) from if_neg e, up_ni L v (fun h => e (by omega))]
  refine va_last hB.1 hB.2.1 hB.K.1 hH.2.1 (qD E _ (qA E) (fun _ h => h)) hH.2.2 (a - E.2.2) 1 he rfl (zI_vp hi h31) hd (fun H1 locs1 hP1 _ hS1 => ?_)
  rw [hset] at hP1
  exact h p e s m args below meth c H1 locs1 ls hB ⟨hH.1, hP1, hS1⟩ hl
/-- rows of rows of ints, of sheets -/
theorem wk_aald2 {a z r : Nat} {i : Int} (hd : decode M.2.1 pc = .ok (.aaload, 1)) (hq : pc + 1 = q) (hs : isC E.2.2 n sh a 2 z) (hi : 0 ≤ i ∧ i < (z : Int)) (hr : R a i = r ∧ r ≠ 0)
    (h : Wk l E Y M k j q lo (.ref r :: st) (n, sh, I, L, R)) : Wk l E Y M k j pc lo (.int (zI i) :: .ref a :: st) (n, sh, I, L, R) := by
  subst hq
  have h31 : i < 2147483648 := by have := hs.2.2.2; omega
  intro p e s m args below meth c H locs ls hB hH hl
  have he := qws_at (E := E) (S := (n, sh, I, L, R)) (isC.ad hs)
  rw [qel_r hs.2.2.1] at he
  have hv := zI_vp hi h31
  have hlt : (zI i).toNatClampNeg < z := Nat.not_le.mp fun q => hv (Or.inr q)
  refine W.aald (v := va_rf (qrf (R a (((zI i).toNatClampNeg : Nat) : Int)))) (ty := .array .int) hB.1 hB.2.1 (hH.2.1 _ _ he) ((hB.K.1.2 2 _ rfl).1 z (fun j => va_rf (qrf (R a j)))) rfl (fun q => by cases q) (by show ¬ (zI i < 0 ∨ (arrV _ _ _).slots.size ≤ _); rw [arrV_size]; exact hv) (by show (arrV _ _ _).slots[_]? = _; rw [arrV_read _ _ hlt]) rfl rfl hd ?_
  rw [zI_cl hi.1 h31, hr.1, qrf_1 hr.2]
  exact h p e s m args below meth c H locs ls hB hH hl
theorem wk_aald3 {a z r : Nat} {i : Int} (hd : decode M.2.1 pc = .ok (.aaload, 1)) (hq : pc + 1 = q) (hs : isC E.2.2 n sh a 3 z) (hi : 0 ≤ i ∧ i < (z : Int)) (hr : R a i = r ∧ r ≠ 0)
    (h : Wk l E Y M k j q lo (.ref r :: st) (n, sh, I, L, R)) : Wk l E Y M k j pc lo (.int (zI i) :: .ref a :: st) (n, sh, I, L, R) := by
  subst hq
  have h31 : i < 2147483648 := by have := hs.2.2.2; omega
  intro p e s m args below meth c H locs ls hB hH hl
  have he := qws_at (E := E) (S := (n, sh, I, L, R)) (isC.ad hs)
  rw [qel_s hs.2.2.1] at he
  refine va_aldq hB.1 hB.2.1 hB.K.1 hH.2.1 (a - E.2.2) 3 he rfl (zI_vp hi h31) hd ?_
  rw [zI_cl hi.1 h31, hr.1, qrf_1 hr.2]
  exact h p e s m args below meth c H locs ls hB hH hl
theorem wk_alen {a z kd : Nat} (hd : decode M.2.1 pc = .ok (.arraylength, 1)) (hq : pc + 1 = q) (hs : isC E.2.2 n sh a kd z) (hk : kd < 2)
    (h : Wk l E Y M k j q lo (.int (zI z) :: st) (n, sh, I, L, R)) : Wk l E Y M k j pc lo (.ref a :: st) (n, sh, I, L, R) := by
  subst hq
  intro p e s m args below meth c H locs ls hB hH hl
  have he := qws_at (E := E) (S := (n, sh, I, L, R)) (isC.ad hs)
  rcases (by omega : kd = 0 ∨ kd = 1) with rfl | rfl
  · rw [qel_i hs.2.2.1] at he
    exact va_alen hB.1 hB.2.1 hB.K.1 hH.2.1 (a - E.2.2) 0 he rfl rfl hd (h p e s m args below meth c H locs ls hB hH hl)
  · rw [qel_l hs.2.2.1] at he
    exact va_alen hB.1 hB.2.1 hB.K.1 hH.2.1 (a - E.2.2) 1 he rfl rfl hd (h p e s m args below meth c H locs ls hB hH hl)
end QR3
