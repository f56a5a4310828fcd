/-! THE STATE of both, in numbers; what a heap's cells say of it -/
abbrev VV : Type := TT × CC × (Int → Int) × Int × Int × Int × (Int → Int) × (Int → Int) × (Int → Int) × (Int → Int → Int)
def VV.T (V : VV) : TT := V.1
def VV.C (V : VV) : CC := V.2.1
def VV.la (V : VV) : Int → Int := V.2.2.1
def VV.ni (V : VV) : Int := V.2.2.2.1
def VV.tr (V : VV) : Int := V.2.2.2.2.1
def VV.fa (V : VV) : Int := V.2.2.2.2.2.1
def VV.th (V : VV) : Int → Int := V.2.2.2.2.2.2.1
def VV.so (V : VV) : Int → Int := V.2.2.2.2.2.2.2.1
def VV.sl (V : VV) : Int → Int := V.2.2.2.2.2.2.2.2.1
def VV.ce (V : VV) : Int → Int → Int := V.2.2.2.2.2.2.2.2.2
def VV.setT (V : VV) (T : TT) : VV := (T, V.2)
def VV.setC (V : VV) (C : CC) : VV := (V.1, C, V.2.2)
def VV.setLa (V : VV) (la : Int → Int) : VV := (V.1, V.2.1, la, V.2.2.2)
def VV.setNi (V : VV) (z : Int) : VV := (V.1, V.2.1, V.2.2.1, z, V.2.2.2.2)
def VV.setFa (V : VV) (z : Int) : VV := (V.1, V.2.1, V.2.2.1, V.2.2.2.1, V.2.2.2.2.1, z, V.2.2.2.2.2.2)
def VV.setSh (V : VV) (th so sl : Int → Int) (ce : Int → Int → Int) : VV := (V.1, V.2.1, V.2.2.1, V.2.2.2.1, V.2.2.2.2.1, V.2.2.2.2.2.1, th, so, sl, ce)
def LA2 (T : TT) (la : Int → Int) : Prop := ∀ g, 0 ≤ g → g < T.ng → -9 ≤ la g ∧ la g < T.nd ∧ (la g < 0 → la g ≤ -8)
theorem LA2.ok {T : TT} {la : Int → Int} (h : LA2 T la) : LAok T la := fun g h0 h1 => ⟨(h g h0 h1).1, (h g h0 h1).2.1⟩
/-- how often a dish is in a row of k guests -/
def cntR (r : Int → Int) (d : Int) : Nat → Int
  | 0 => 0
  | k + 1 => cntR r d k + if r k = d then 1 else 0
def rowOk (T : TT) (r : Int → Int) : Prop := (∀ g, 0 ≤ g → g < T.ng → r g = -9 ∨ (0 ≤ r g ∧ r g < T.nd ∧ T.wo g (r g) ≠ -1)) ∧ ∀ d, 0 ≤ d → d < T.nd → cntR r d T.ng.toNat ≤ T.mn d
def isWt (T : TT) (C : CC) (wt : Int → Int) : Prop := ∀ s, 0 ≤ s → s < C.se → wt (tgt C s) = 10 + T.kn (C.od s)
def p10 (g : Nat) : Int := 10 ^ (6 - g)
/-- how glad, and behind it the row -/
def codeR (T : TT) (wt r : Int → Int) : Nat → Int
  | 0 => 0
  | k + 1 => codeR T wt r k + if r k < 0 then 0 else 10000000 * (wt k * T.wo k (r k)) + (9 - r k) * p10 k
def isBest (T : TT) (C : CC) (z : Int) : Prop := ∃ wt, isWt T C wt ∧ (∃ r, rowOk T r ∧ codeR T wt r T.ng.toNat = z) ∧ ∀ r, rowOk T r → codeR T wt r T.ng.toNat ≤ z
def permsL : Nat → List Int → List (List Int)
  | 0, _ => [[]]
  | n + 1, l => l.flatMap (fun a => (permsL n (l.erase a)).map (a :: ·))
def rowsN (n : Nat) : List (List Int) := (permsL (n - 1) ((List.range (n - 1)).map (fun k : Nat => (k : Int) + 1))).map (0 :: ·)
def CC.setOd (C : CC) (od : Int → Int) : CC := (C.1, C.2.1, od, C.2.2.2)
def seatVal (T : TT) (C : CC) (aim : Int) (p : List Int) : Int :=
  if aim = 0 then sumI (evE T (C.setOd (fun s => p.getD s.toNat 0)) (fun _ => -8)).gl T.ng.toNat else leastI (evE T (C.setOd (fun s => p.getD s.toNat 0)) (fun _ => -8)).gl (T.ng - 1).toNat
def seatStep (T : TT) (C : CC) (aim : Int) (b : Int × List Int) (p : List Int) : Int × List Int := if b.1 < seatVal T C aim p then (seatVal T C aim p, p) else b
def seatBest (T : TT) (C : CC) (aim : Int) : Int × List Int := (rowsN T.ng.toNat).foldl (seatStep T C aim) (-1, [])
/-- what the class keeps of what it found -/
def caB (I L : qI) (x : Nat) (T : TT) (C : CC) : Prop := I (x + 150) 0 = 0 ∨ (I (x + 150) 0 = 1 ∧ 0 < T.ng ∧ isBest T C (L (x + 150) 4))
def caS (I : qI) (x : Nat) (T : TT) (C : CC) : Prop := I (x + 154) 0 = 0 ∨ (I (x + 154) 0 = 1 ∧ 0 < T.ng ∧ ∀ aim : Int, 0 ≤ aim → aim < 2 → I (x + 155) aim = (seatBest T C aim).1 ∧ ∀ s : Int, 0 ≤ s → s < T.ng → I (x + 157 + aim.toNat) s = (seatBest T C aim).2.getD s.toNat 0)
def shSh (I : qI) (x : Nat) (V : VV) : Prop := ∀ k, 0 ≤ k → k < 4 → I (x + 159 + 2 * k.toNat) 1 = V.th k ∧ I (x + 159 + 2 * k.toNat) 2 = V.so k ∧ I (x + 159 + 2 * k.toNat) 3 = V.sl k ∧ ∀ i, 0 ≤ i → i < 100 → I (x + 159 + 2 * k.toNat + 1) i = V.ce k i
def VV.shok (V : VV) : Prop := ∀ k, 0 ≤ k → k < 4 → (V.th k = 0 ∨ (V.th k = 1 ∧ 0 ≤ V.so k ∧ V.so k ≤ 2)) ∧ in32 (V.so k) ∧ 0 ≤ V.sl k ∧ V.sl k ≤ 100 ∧ ∀ i, 0 ≤ i → i < 100 → in32 (V.ce k i)
def VV.ok (V : VV) : Prop := V.shok ∧ ((V.T.ng = 0 ∧ V.T.nd = 0) ∨ (V.T.ok ∧ V.C.now V.T ∧ LA2 V.T V.la))
def tbC (I : qI) (x o u1 : Nat) (V : VV) : Prop := shT I o V.T ∧ ((V.T.ng = 0 ∧ I (x + 30) 6 = 0 ∧ I (x + 30) 7 = 0) ∨ (0 < V.T.ng ∧ u1 = o ∧ shC I (x + 30) V.T V.C ∧ I (x + 30) 8 = -1 ∧ ∀ g, 0 ≤ g → g < V.T.ng → I (x + 30 + 17) g = V.la g))
def CI0 (b n : Nat) (sh : qSh) (x : Nat) (I L : qI) (R : qR) (V : VV) (o d u1 u2 u3 : Nat) : Prop :=
  qRA b n sh R x o d u1 u2 u3 ∧ ((o = x + 2 ∧ d = x + 16) ∨ (o = x + 16 ∧ d = x + 2)) ∧ V.ok ∧ I x 10 = V.ni ∧ I x 11 = V.tr ∧ I x 12 = V.fa ∧ shSh I x V ∧ tbC I x o u1 V ∧ caB I L x V.T V.C ∧ caS I x V.T V.C
def CI (b n : Nat) (sh : qSh) (x : Nat) (I L : qI) (R : qR) (V : VV) : Prop := ∃ o d u1 u2 u3, CI0 b n sh x I L R V o d u1 u2 u3
/-- nothing outside is written -/
def frO {α : Type} (I I' : Nat → Int → α) (a w : Nat) : Prop := ∀ b i, (b < a ∨ a + w ≤ b) → I' b i = I b i
theorem frO.rf {α : Type} {I : Nat → Int → α} {a w : Nat} : frO I I a w := fun _ _ _ => rfl
theorem frO.tr {α : Type} {I I1 I2 : Nat → Int → α} {a w : Nat} (h1 : frO I I1 a w) (h2 : frO I1 I2 a w) : frO I I2 a w := fun b i q => (h2 b i q).trans (h1 b i q)
section SW
variable {l : Launch} {E : qEv} {Y : qMo} {M : qMD} {k j : Nat} {pc : Nat} {lo : List (Nat × Value)} {st : List Value} {S : qS}
theorem wk_sw2 {a k1 k2 o1 o2 dflt : Int} {len t1 t2 td : Nat} (hd : decode M.2.1 pc = .ok (.lookupswitch dflt #[(k1, o1), (k2, o2)], len)) (h12 : k1 < k2) (e1 : (pc : Int) + o1 = (t1 : Int)) (e2 : (pc : Int) + o2 = (t2 : Int)) (ed : (pc : Int) + dflt = (td : Int)) (ha : in32 a)
    (h1 : a = k1 → Wk l E Y M k j t1 lo st S) (h2 : a = k2 → Wk l E Y M k j t2 lo st S) (h3 : a ≠ k1 → a ≠ k2 → Wk l E Y M k j td lo st S) : Wk l E Y M k j pc lo (.int (zI a) :: st) S := by
  have hp : ((#[(k1, o1), (k2, o2)] : Array (Int × Int)).toList.zip ((#[(k1, o1), (k2, o2)] : Array (Int × Int)).toList.drop 1)).all (fun (a, next) => a.1 < next.1) = true := by simp [h12]
  by_cases c1 : a = k1
  · exact wk_lookup hd ha hp (off := o1) (by simp [Op.lookupswitch.offset, c1]) e1 (h1 c1)
  · by_cases c2 : a = k2
    · exact wk_lookup hd ha hp (off := o2) (by simp [Op.lookupswitch.offset, c1, c2, Ne.symm c1]; try omega) e2 (h2 c2)
    · exact wk_lookup hd ha hp (off := dflt) (by simp [Op.lookupswitch.offset, c1, c2, Ne.symm c1, Ne.symm c2]) ed (h3 c1 c2)
theorem wk_ts5 {a o0 o1 o2 o3 o4 dflt : Int} {len t0 t1 t2 t3 t4 td : Nat} (hd : decode M.2.1 pc = .ok (.tableswitch dflt 0 4 #[o0, o1, o2, o3, o4], len)) (e0 : (pc : Int) + o0 = (t0 : Int)) (e1 : (pc : Int) + o1 = (t1 : Int)) (e2 : (pc : Int) + o2 = (t2 : Int)) (e3 : (pc : Int) + o3 = (t3 : Int)) (e4 : (pc : Int) + o4 = (t4 : Int)) (ed : (pc : Int) + dflt = (td : Int)) (ha : in32 a)
    (h0 : a = 0 → Wk l E Y M k j t0 lo st S) (h1 : a = 1 → Wk l E Y M k j t1 lo st S) (h2 : a = 2 → Wk l E Y M k j t2 lo st S) (h3 : a = 3 → Wk l E Y M k j t3 lo st S) (h4 : a = 4 → Wk l E Y M k j t4 lo st S) (hdf : (a < 0 ∨ 4 < a) → Wk l E Y M k j td lo st S) : Wk l E Y M k j pc lo (.int (zI a) :: st) S := by
  rcases (by omega : a = 0 ∨ a = 1 ∨ a = 2 ∨ a = 3 ∨ a = 4 ∨ (a < 0 ∨ 4 < a)) with c | c | c | c | c | c
  · exact wk_tsIn hd ha (by omega) (by omega) (off := o0) (by subst c; rfl) e0 (h0 c)
  · exact wk_tsIn hd ha (by omega) (by omega) (off := o1) (by subst c; rfl) e1 (h1 c)
  · exact wk_tsIn hd ha (by omega) (by omega) (off := o2) (by subst c; rfl) e2 (h2 c)
  · exact wk_tsIn hd ha (by omega) (by omega) (off := o3) (by subst c; rfl) e3 (h3 c)
  · exact wk_tsIn hd ha (by omega) (by omega) (off := o4) (by subst c; rfl) e4 (h4 c)
  · exact wk_tsOut hd ha c ed (hdf c)
end SW
