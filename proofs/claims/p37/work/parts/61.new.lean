/-! ROWS that make cells: objects, arrays, arrays of arrays; constructors' calls -/
def shu (sh : qSh) (a : Nat) (v : Nat × Nat) : qSh := fun b => if b = a then v else sh b
theorem shu_eq (sh : qSh) (a : Nat) (v : Nat × Nat) : shu sh a v a = v := if_pos rfl
theorem shu_ne {sh : qSh} {a b : Nat} {v : Nat × Nat} (h : b ≠ a) : shu sh a v b = sh b := if_neg h
theorem isC.sh1 {b n : Nat} {sh : qSh} {a kd z : Nat} {v : Nat × Nat} (h : isC b n sh a kd z) : isC b (n + 1) (shu sh (b + n) v) a kd z :=
  ⟨h.1, by have := h.2.1; omega, by rw [shu_ne (by have := h.2.1; omega)]; exact h.2.2.1, h.2.2.2⟩
theorem isC.nw {b n : Nat} {sh : qSh} {kd z : Nat} (hz : z < 2147483648) : isC b (n + 1) (shu sh (b + n) (kd, z)) (b + n) kd z := ⟨by omega, by omega, shu_eq _ _ _, hz⟩
theorem arrV_cg {cI : ClassId} {N : Nat} {f g : Nat → Value} (h : ∀ i, i < N → f i = g i) : arrV cI N f = arrV cI N g := by
  unfold arrV
  refine congrArg (fun s => ({ cls := cI, slots := s, vm := .none } : Cell)) ?_
  refine congrArg _ (funext fun i => ?_)
  exact h i.val i.isLt
theorem up_o2 {α : Type} {f : Nat → Int → α} {a b : Nat} {i j : Int} {v : α} (h : ¬ (b = a ∧ j = i)) : up f a i v b j = f b j := if_neg h
/-- nothing beyond -/
def qZr (B : Nat) (I L : qI) (R : qR) : Prop := ∀ b i, B ≤ b → I b i = 0 ∧ L b i = 0 ∧ R b i = 0
def qdf (ty : FieldType) : Bool := match ty with
  | .int => true
  | .boolean => true
  | .long => true
  | t => qisR t
theorem qdf_ok {ty : FieldType} (h : qdf ty = true) : defaultValue ty = qfv ty 0 0 0 := by
  cases ty <;> first | rfl | cases h
section QNEW
variable {l : Launch} {E : qEv} {Y : qMo} {M : qMD} {k j : Nat} {pc q : Nat} {lo : List (Nat × Value)} {st : List Value} {n : Nat} {sh : qSh} {I L : qI} {R : qR}
/-- the world grows -/
theorem qHp_grow {S S' : qS} {g : Nat} {s : State} {H H' : Heap} {locs : List Loc} (hS : S'.1 = S.1 + g) (old : ∀ b, E.2.2 ≤ b → b < E.2.2 + S.1 → qel E S' b = qel E S b) (hH : qHp E S s k H locs) (hsz : H.size = E.2.2 + S.1) (hk : ∀ q, q < H.size → H'[q]? = H[q]?) (hz : H'.size = H.size + g) (new : ∀ b, E.2.2 + S.1 ≤ b → b < E.2.2 + S.1 + g → va_at E.1 vwCl (b, qel E S' b) H') : qHp E S' s (k + g) H' locs := by
  refine ⟨by have := hH.1; omega, fun i p hp => ?_, Nat.le_trans hH.2.2.1 (by omega), fun q h1 h2 => (hk q (Nat.lt_of_lt_of_le h1 hH.2.2.1)).trans (hH.2.2.2.1 q h1 h2), hH.2.2.2.2⟩
  unfold qws at hp
  rw [List.getElem?_map] at hp
  by_cases hi : i < S'.1
  · rw [List.getElem?_range hi] at hp
    cases hp
    by_cases hl : i < S.1
    · have h4 := qws_at (E := E) (S := S) (a := E.2.2 + i) ⟨by omega, by omega⟩
      have h5 : va_at E.1 vwCl (E.2.2 + i, qel E S (E.2.2 + i)) H := hH.2.1 _ _ h4
      show va_at E.1 vwCl (E.2.2 + i, qel E S' (E.2.2 + i)) H'
      rw [old _ (by omega) (by omega)]
      exact h5.kept (hk _ (by show E.2.2 + i < H.size; omega))
    · exact new _ (by omega) (by omega)
  · rw [List.getElem?_eq_none (by rw [List.length_range]; omega)] at hp
    cases hp
theorem qel_old {I' L' : qI} {R' : qR} {n' : Nat} {sh' : qSh} {b : Nat} (hs : sh' b = sh b) (hI : ∀ i, I' b i = I b i ∧ L' b i = L b i ∧ R' b i = R b i) : qel E (n', sh', I', L', R') b = qel E (n, sh, I, L, R) b := by
  have e1 : I' b = I b := funext fun i => (hI i).1
  have e2 : L' b = L b := funext fun i => (hI i).2.1
  have e3 : R' b = R b := funext fun i => (hI i).2.2
  simp only [qel, hs, e1, e2, e3]
theorem wk_obj {index a : Nat} (hd : decode M.2.1 pc = .ok (.invokespecial index, 3)) (hq : pc + 3 = q) (hl : Cond.methodLink M.1.cls index Lib.objectInit ∈ qtb) (hi : Cond.instanceMethod Lib.objectInit ∈ qtb) (hc : Cond.code Lib.objectInit ⟨#[0xb1]⟩ 1 none ∈ qtb) (hf : 1 ≤ Y.1.frames) (hlo : (st.map fun v => v.category).sum + 12 ≤ Y.1.locals)
    (h : Wk l E Y M k j q lo st (n, sh, I, L, R)) : Wk l E Y M k j pc lo (.ref a :: st) (n, sh, I, L, R) := by
  subst hq
  intro p e s m args below meth c H locs ls hB hH hlv
  refine W.objInit hB.1 hB.2.1 hB.2.2.2.2.1 (hB.ts hl) (hB.ts hi) (hB.ts hc) rfl (hlv.1.trans hB.2.2.1.symm) rfl hd hf ?_ ?_
  · show 2 * 0 + _ + 12 ≤ _
    omega
  · exact W.eq (g2 := F0 m (pc + 3) ls st) rfl (h p e s m args below meth c H locs ls hB hH hlv)
theorem wk_newI {zz : Int} {z : Nat} (hd : decode M.2.1 pc = .ok (.newarray .int, 2)) (hq : pc + 2 = q) (hA : Cond.arrayClass .int ∈ qtb) (hz : zz = (z : Int)) (hz2 : z < 100000) (h0 : qZr (E.2.2 + n) I L R) (hc : k + 1 ≤ Y.1.cells) (hs : j + z ≤ Y.1.slots)
    (h : Wk l E Y M (k + 1) (j + z) q lo (.ref (E.2.2 + n) :: st) (n + 1, shu sh (E.2.2 + n) (0, z), I, L, R)) : Wk l E Y M k j pc lo (.int (zI zz) :: st) (n, sh, I, L, R) := by
  subst hq
  subst hz
  intro p e s m args below meth c H locs ls hB hH hlv
  refine wk_size hB.2.2.2.2.2.2.2.2.2.1 hH (fun hsz => ?_)
  have hsz' : H.size = E.2.2 + n := hsz
  refine va_newaK (atype := .int) hB.1 hB.2.1 (hB.ts hA) rfl hd rfl (fun q => by rw [show (0 : Int32) = zI 0 from rfl, zI_lt (by omega) (by omega)] at q; omega) (by have := zI_cl (e := (z : Int)) (by omega) (by omega); omega) (by show z * 4 ≤ _; omega) hc hs hsz' fun H1 cA e1 z1 o1 hAr hNm => ?_
  have hcA : cA = E.2.1.1 := Option.some.inj (hNm.symm.trans (hB.K.1.2 0 _ rfl).2)
  subst hcA
  refine W.eq (g2 := F0 m (pc + 2) ls (.ref (E.2.2 + n) :: st)) rfl (h p e s m args below meth c H1 locs ls hB (qHp_grow (S := (n, sh, I, L, R)) (g := 1) rfl (fun b b0 b1 => qel_old (shu_ne (by have b1' : b < E.2.2 + n := b1; omega)) (fun i => ⟨rfl, rfl, rfl⟩)) hH hsz (fun q hq => o1 q (by omega)) (by omega) (fun b b0 b1 => ?_)) hlv)
  have hb : b = E.2.2 + n := by
    have b0' : E.2.2 + n ≤ b := b0
    have b1' : b < E.2.2 + n + 1 := b1
    omega
  subst hb
  rw [qel_i (shu_eq _ _ _)]
  show H1[E.2.2 + n]? = some (arrV E.2.1.1 z (fun i => .int (zI (I (E.2.2 + n) (i : Int)))))
  rw [e1]
  refine congrArg some (arrV_cg fun i hi => ?_)
  rw [(h0 _ _ (Nat.le_refl _)).1]
  rfl
theorem wk_newJ {zz : Int} {z : Nat} (hd : decode M.2.1 pc = .ok (.newarray .long, 2)) (hq : pc + 2 = q) (hA : Cond.arrayClass .long ∈ qtb) (hz : zz = (z : Int)) (hz2 : z < 100000) (h0 : qZr (E.2.2 + n) I L R) (hc : k + 1 ≤ Y.1.cells) (hs : j + z ≤ Y.1.slots)
    (h : Wk l E Y M (k + 1) (j + z) q lo (.ref (E.2.2 + n) :: st) (n + 1, shu sh (E.2.2 + n) (1, z), I, L, R)) : Wk l E Y M k j pc lo (.int (zI zz) :: st) (n, sh, I, L, R) := by
  subst hq
  subst hz
  intro p e s m args below meth c H locs ls hB hH hlv
  refine wk_size hB.2.2.2.2.2.2.2.2.2.1 hH (fun hsz => ?_)
  have hsz' : H.size = E.2.2 + n := hsz
  refine va_newaK (atype := .long) hB.1 hB.2.1 (hB.ts hA) rfl hd rfl (fun q => by rw [show (0 : Int32) = zI 0 from rfl, zI_lt (by omega) (by omega)] at q; omega) (by have := zI_cl (e := (z : Int)) (by omega) (by omega); omega) (by show z * 8 ≤ _; omega) hc hs hsz' fun H1 cA e1 z1 o1 hAr hNm => ?_
  have hcA : cA = E.2.1.2.1 := Option.some.inj (hNm.symm.trans (hB.K.1.2 1 _ rfl).2)
  subst hcA
  refine W.eq (g2 := F0 m (pc + 2) ls (.ref (E.2.2 + n) :: st)) rfl (h p e s m args below meth c H1 locs ls hB (qHp_grow (S := (n, sh, I, L, R)) (g := 1) rfl (fun b b0 b1 => qel_old (shu_ne (by have b1' : b < E.2.2 + n := b1; omega)) (fun i => ⟨rfl, rfl, rfl⟩)) hH hsz (fun q hq => o1 q (by omega)) (by omega) (fun b b0 b1 => ?_)) hlv)
  have hb : b = E.2.2 + n := by
    have b0' : E.2.2 + n ≤ b := b0
    have b1' : b < E.2.2 + n + 1 := b1
    omega
  subst hb
  rw [qel_l (shu_eq _ _ _)]
  show H1[E.2.2 + n]? = some (arrV E.2.1.2.1 z (fun i => .long (zL (L (E.2.2 + n) (i : Int)))))
  rw [e1]
  refine congrArg some (arrV_cg fun i hi => ?_)
  rw [(h0 _ _ (Nat.le_refl _)).2.1]
  rfl
theorem wk_newS {index : Nat} {zz : Int} {z : Nat} (hd : decode M.2.1 pc = .ok (.anewarray index, 3)) (hq : pc + 3 = q) (hcl : Cond.classLink M.1.cls index RX3 ∈ qtb) (hz : zz = (z : Int)) (hz2 : z < 100000) (h0 : qZr (E.2.2 + n) I L R) (hc : k + 1 ≤ Y.1.cells) (hs : j + z ≤ Y.1.slots)
    (h : Wk l E Y M (k + 1) (j + z) q lo (.ref (E.2.2 + n) :: st) (n + 1, shu sh (E.2.2 + n) (3, z), I, L, R)) : Wk l E Y M k j pc lo (.int (zI zz) :: st) (n, sh, I, L, R) := by
  subst hq
  subst hz
  intro p e s m args below meth c H locs ls hB hH hlv
  refine wk_size hB.2.2.2.2.2.2.2.2.2.1 hH (fun hsz => ?_)
  have hsz' : H.size = E.2.2 + n := hsz
  have hcl2 : (zI (z : Int)).toNatClampNeg = z := by have := zI_cl (e := (z : Int)) (by omega) (by omega); omega
  refine W.anew hB.1 hB.2.1 hB.2.2.2.2.1 (hB.ts hcl) (va_AO.use (va_AO.of hB.K.2.2.2)) rfl hd rfl (fun q => by rw [show (0 : Int32) = zI 0 from rfl, zI_lt (by omega) (by omega)] at q; omega) (by rw [hcl2]; omega) hc (by rw [hcl2]; exact hs) fun cA kA comp f1 f2 f3 f4 => ?_
  obtain ⟨kA', comp', g1, g2, g3, g4⟩ := (hB.K.1.2 3 _ rfl).2
  have hcA : cA = E.2.1.2.2.2 := Option.some.inj (f1.symm.trans g4)
  subst hcA
  rw [hcl2]
  refine W.eq (g2 := F0 m (pc + 3) ls (.ref (E.2.2 + n) :: st)) (by rw [hsz']) ?_
  have o1 : ∀ q : Nat, q < H.size → (H.push ({ cls := E.2.1.2.2.2, slots := Array.replicate z .null, vm := .none } : Cell))[q]? = H[q]? := fun q hq => by rw [Array.getElem?_push, if_neg (Nat.ne_of_lt hq)]
  refine h p e s m args below meth c _ locs ls hB (qHp_grow (S := (n, sh, I, L, R)) (g := 1) rfl (fun b b0 b1 => qel_old (shu_ne (by have b1' : b < E.2.2 + n := b1; omega)) (fun i => ⟨rfl, rfl, rfl⟩)) hH hsz o1 (by rw [Array.size_push]) (fun b b0 b1 => ?_)) hlv
  have hb : b = E.2.2 + n := by
    have b0' : E.2.2 + n ≤ b := b0
    have b1' : b < E.2.2 + n + 1 := b1
    omega
  subst hb
  rw [qel_s (shu_eq _ _ _)]
  show (H.push _)[E.2.2 + n]? = some (arrV E.2.1.2.2.2 z (fun i => va_rf (qrf (R (E.2.2 + n) (i : Int)))))
  rw [← hsz', Array.getElem?_push_size, arrV_new]
  refine congrArg some (arrV_cg fun i hi => ?_)
  rw [hsz', (h0 _ _ (Nat.le_refl _)).2.2]
  rfl
theorem wk_newO {index ci : Nat} {C : String} {T : u_T} {N : Nat} (hd : decode M.2.1 pc = .ok (.new index, 3)) (hq : pc + 3 = q) (hck : qCok ci C T N) (hcl : Cond.classLink M.1.cls index C ∈ qtb) (hin : Cond.instantiable C N ∈ qtb) (hii : Cond.initialized C ∈ qtb) (hdf : ∀ i, i < qnf ci → qdf (qty ci i) = true) (h0 : qZr (E.2.2 + n) I L R) (hc : k + 1 ≤ Y.1.cells) (hs : j + N ≤ Y.1.slots)
    (h : Wk l E Y M (k + 1) (j + N) q lo (.ref (E.2.2 + n) :: st) (n + 1, shu sh (E.2.2 + n) (ci + 4, 0), I, L, R)) : Wk l E Y M k j pc lo st (n, sh, I, L, R) := by
  subst hq
  obtain ⟨c1, c2, c3, c4, c5⟩ := hck
  intro p e s m args below meth c H locs ls hB hH hlv
  refine wk_size hB.2.2.2.2.2.2.2.2.2.1 hH (fun hsz => ?_)
  have hsz' : H.size = E.2.2 + n := hsz
  have hKn := hB.K.1.1 ci _ c1
  refine W.newcK hB.1 hB.2.1 hB.2.2.2.2.1 (hB.ts hcl) (hB.ts hin) (hB.ts hii) rfl hd hc hs hKn.2.1 hsz' fun H1 kC hkC e1 z1 o1 => ?_
  refine W.eq (g2 := F0 m (pc + 3) ls (.ref (E.2.2 + n) :: st)) rfl (h p e s m args below meth c H1 locs ls hB (qHp_grow (S := (n, sh, I, L, R)) (g := 1) rfl (fun b b0 b1 => qel_old (shu_ne (by have b1' : b < E.2.2 + n := b1; omega)) (fun i => ⟨rfl, rfl, rfl⟩)) hH hsz (fun q hq => o1 q (by omega)) (by omega) (fun b b0 b1 => ?_)) hlv)
  have hb : b = E.2.2 + n := by
    have b0' : E.2.2 + n ≤ b := b0
    have b1' : b < E.2.2 + n + 1 := b1
    omega
  subst hb
  rw [qel_o (shu_eq _ _ _)]
  refine ⟨_, c1, (u_born (qty ci) hB.tq c3 hKn hkC e1 c4).to (fun i hi => ?_)⟩
  have hi' : i < N := hi
  unfold vp_V
  rw [List.getD_eq_getElem?_getD, List.getElem?_map, List.getElem?_range (by omega)]
  show defaultValue (qty ci i) = qfv (qty ci i) (I (E.2.2 + n) (i : Int)) (L (E.2.2 + n) (i : Int)) (R (E.2.2 + n) (i : Int))
  rw [(h0 _ _ (Nat.le_refl _)).1, (h0 _ _ (Nat.le_refl _)).2.1, (h0 _ _ (Nat.le_refl _)).2.2]
  exact qdf_ok (hdf i (by omega))
/-- a final field, in a constructor -/
theorem wk_putF {index ci f a z r : Nat} {fi : Int} (hd : decode M.2.1 pc = .ok (.putfield index, 3)) (hq : pc + 3 = q) (hf : qFL M.1.cls index ci f) (hfin : ∃ C T N, vwCl[ci]? = some (C, T, N) ∧ (T f).2.2.2 = true ∧ (T f).1 = M.1.cls) (hini : M.1.name = "<init>") (hty : qisR (qty ci f) = true) (hr : r ≠ 0) (hfi : ((f : Nat) : Int) = fi) (hs : isC E.2.2 n sh a (ci + 4) z)
    (h : Wk l E Y M k j q lo st (n, sh, I, L, up R a fi r)) : Wk l E Y M k j pc lo (.ref r :: .ref a :: st) (n, sh, I, L, R) := by
  subst hq
  subst hfi
  obtain ⟨C, T, N, ⟨c1, c2, c3, c4, c5⟩, hk, hw⟩ := hf
  obtain ⟨C2, T2, N2, d1, d2, d3⟩ := hfin
  rw [c1] at d1
  cases d1
  have hv : Value.ref r = qfv (qty ci f) (I a f) (L a f) (up R a (f : Int) r a f) := by rw [qfv_r hty, up_eq, qrf_1 hr]
  intro p e s m args below meth c H locs ls hB hH hl
  have he := qws_at (E := E) (S := (n, sh, I, L, R)) (isC.ad hs)
  rw [qel_o hs.2.2.1] at he
  have hset : (qws E (n, sh, I, L, R)).set (a - E.2.2) (a, .inr (ci, ((List.range (qnf ci)).map (fun k => qfv (qty ci k) (I a k) (L a k) (R a k))).set f (Value.ref r))) = qws E (n, sh, I, L, up R a (f : Int) r) := by
    refine qws_set (isC.ad hs) rfl ?_ (fun b hb' => qel_same (fun j => rfl) (fun j => rfl) (fun j => up_b R a f r b j hb'))
    rw [qel_o hs.2.2.1]
    refine congrArg (fun z => Sum.inr (ci, z)) (qfs_set (g := fun k : Nat => qfv (qty ci k) (I a k) (L a k) (R a k)) (g' := fun k : Nat => qfv (qty ci k) (I a k) (L a k) (up R a (f : Int) r a k)) (f := f) (v := Value.ref r) hv.symm (fun g hg => ?_)).symm
    show qfv (qty ci g) (I a g) (L a g) (up R a (f : Int) r a g) = qfv (qty ci g) (I a g) (L a g) (R a g)
    rw [up_o R a f r g hg]
  refine va_putF hB.1 hB.2.1 hB.tq c3 (qty ci) c4 c5 hB.2.2.2.2.1 hB.K.1 hH.2.1 (qD E _ (qA E) (fun _ h => h)) hH.2.2 (a - E.2.2) he c1 f hk (hB.ts hw) (fun _ h9 => h9) d2 (hB.2.2.2.2.2.2.2.1.trans hini) d3 (c4 f hk) ?_ ?_ (by rw [List.length_map, List.length_range]; omega) hd (fun H1 locs1 hP1 _ hS1 => ?_)
  · generalize qty ci f = ty at hty ⊢
    cases ty <;> first | rfl | cases hty
  · generalize qty ci f = ty at hty ⊢
    cases ty <;> first | rfl | cases hty
  · rw [hset] at hP1
    exact h p e s m args below meth c H1 locs1 ls hB ⟨hH.1, hP1, hS1⟩ hl
end QNEW
