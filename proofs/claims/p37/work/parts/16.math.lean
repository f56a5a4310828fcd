/-! WHAT AN EVENING IS, in numbers: a told table T; how it stands, C; what changes, an ES -/
theorem up_ind {P : Nat → Prop} (N : Nat) (h0 : P N) (hs : ∀ k, k < N → P (k + 1) → P k) : ∀ k, k ≤ N → P k := by
  intro k hk
  obtain ⟨j, rfl⟩ : ∃ j, N = k + j := ⟨N - k, by omega⟩
  induction j generalizing k with
  | zero => exact h0
  | succ j ih => exact hs k (by omega) (ih (k + 1) (by rw [show k + 1 + j = k + (j + 1) by omega]; exact h0) (fun m hm => hs m (by omega)) (by omega))
abbrev TT : Type := Int × Int × (Int → Int) × (Int → Int) × (Int → Int) × (Int → Int) × (Int → Int) × (Int → Int → Int)
def TT.ng (T : TT) : Int := T.1
def TT.nd (T : TT) : Int := T.2.1
def TT.mn (T : TT) : Int → Int := T.2.2.1
def TT.pr (T : TT) : Int → Int := T.2.2.2.1
def TT.kd (T : TT) : Int → Int := T.2.2.2.2.1
def TT.kn (T : TT) : Int → Int := T.2.2.2.2.2.1
def TT.ct (T : TT) : Int → Int := T.2.2.2.2.2.2.1
def TT.wo (T : TT) : Int → Int → Int := T.2.2.2.2.2.2.2
abbrev CC : Type := (Int → Int → Int) × (Int → Int) × (Int → Int) × Int × Int × Int × Int
def CC.sa (C : CC) : Int → Int → Int := C.1
def CC.kd (C : CC) : Int → Int := C.2.1
def CC.od (C : CC) : Int → Int := C.2.2.1
def CC.se (C : CC) : Int := C.2.2.2.1
def CC.st (C : CC) : Int := C.2.2.2.2.1
def CC.co (C : CC) : Int := C.2.2.2.2.2.1
def CC.sp (C : CC) : Int := C.2.2.2.2.2.2
abbrev ES : Type := (Int → Int) × (Int → Int) × (Int → Int → Int) × (Int → Int) × (Int → Int)
def ES.le (e : ES) : Int → Int := e.1
def ES.la (e : ES) : Int → Int := e.2.1
def ES.go (e : ES) : Int → Int → Int := e.2.2.1
def ES.gl (e : ES) : Int → Int := e.2.2.2.1
def ES.pa (e : ES) : Int → Int := e.2.2.2.2
def u1 (f : Int → Int) (i v : Int) : Int → Int := fun j => if j = i then v else f j
theorem u1_eq (f : Int → Int) (i v : Int) : u1 f i v i = v := if_pos rfl
theorem u1_ne {f : Int → Int} {i v j : Int} (h : j ≠ i) : u1 f i v j = f j := if_neg h
def u2 (f : Int → Int → Int) (a i v : Int) : Int → Int → Int := fun b j => if b = a ∧ j = i then v else f b j
theorem u2_eq (f : Int → Int → Int) (a i v : Int) : u2 f a i v a i = v := if_pos ⟨rfl, rfl⟩
theorem u2_ne {f : Int → Int → Int} {a i v b j : Int} (h : b ≠ a ∨ j ≠ i) : u2 f a i v b j = f b j := if_neg (fun q => h.elim (fun z => z q.1) (fun z => z q.2))
def TT.ok (T : TT) : Prop := 2 ≤ T.ng ∧ T.ng ≤ 7 ∧ 2 ≤ T.nd ∧ T.nd ≤ 6 ∧ (∀ d, 0 ≤ d → d < T.nd → 1 ≤ T.mn d ∧ T.mn d ≤ 9 ∧ 0 ≤ T.pr d ∧ T.pr d ≤ 9) ∧
  ∀ g, 0 ≤ g → g < T.ng → 0 ≤ T.kd g ∧ T.kd g ≤ 2 ∧ 0 ≤ T.kn g ∧ T.kn g ≤ 9 ∧ 0 ≤ T.ct g ∧ T.ct g ≤ 9 ∧ ∀ d, 0 ≤ d → d < T.nd → -1 ≤ T.wo g d ∧ T.wo g d ≤ 9
def CC.ok (C : CC) (T : TT) : Prop := 1 ≤ C.se ∧ C.se ≤ T.ng ∧ 1 ≤ C.st ∧ C.st < T.ng ∧ 1 ≤ C.co ∧ C.co ≤ 8 ∧ -1 ≤ C.sp ∧ C.sp < 7 ∧ (∀ s, 0 ≤ s → s < C.se → 0 ≤ C.od s ∧ C.od s < T.ng) ∧ (∀ s s', 0 ≤ s → s < C.se → 0 ≤ s' → s' < C.se → C.od s = C.od s' → s = s') ∧
  ∀ g, 0 ≤ g → g < T.ng → 0 ≤ C.kd g ∧ C.kd g ≤ 2 ∧ ∀ d, 0 ≤ d → d < T.nd → -1 ≤ C.sa g d ∧ C.sa g d ≤ 9 ∧ (C.sa g d = -1 ↔ T.wo g d = -1)
/-- what a dish that he got is truly worth to him -/
def truly (T : TT) (g d : Int) : Int := if d < 0 then 0 else T.wo g d
/-- whether a dish is asked for ahead of another one -/
abbrev ahead (T : TT) (C : CC) (how h d o : Int) : Prop :=
  (how = 0 ∧ (C.sa h o < C.sa h d ∨ (C.sa h d = C.sa h o ∧ T.pr d < T.pr o))) ∨ (how = 1 ∧ (T.pr d < T.pr o ∨ (T.pr d = T.pr o ∧ C.sa h o < C.sa h d))) ∨ (how = 2 ∧ (C.sa h d < C.sa h o ∨ (C.sa h d = C.sa h o ∧ T.pr d < T.pr o)))
def wishN (T : TT) (C : CC) (how h : Int) (le : Int → Int) : Nat → Int
  | 0 => -9
  | k + 1 => if 0 < le k ∧ T.wo h k ≠ -1 ∧ (wishN T C how h le k = -9 ∨ ahead T C how h k (wishN T C how h le k)) then (k : Int) else wishN T C how h le k
/-- the dish that is asked for -/
def wish (T : TT) (C : CC) (how h : Int) (le : Int → Int) : Int := wishN T C how h le T.nd.toNat
theorem wishN_in (T : TT) (C : CC) (how h : Int) (le : Int → Int) : ∀ k, wishN T C how h le k = -9 ∨ (0 ≤ wishN T C how h le k ∧ wishN T C how h le k < k ∧ 0 < le (wishN T C how h le k) ∧ T.wo h (wishN T C how h le k) ≠ -1)
  | 0 => Or.inl rfl
  | k + 1 => by
    unfold wishN
    split
    · rename_i hc
      exact Or.inr ⟨by omega, by omega, hc.1, hc.2.1⟩
    · rcases wishN_in T C how h le k with h | h
      · exact Or.inl h
      · exact Or.inr ⟨h.1, by omega, h.2.2⟩
theorem wish_in {T : TT} (hT : T.ok) (C : CC) (how h : Int) (le : Int → Int) : wish T C how h le = -9 ∨ (0 ≤ wish T C how h le ∧ wish T C how h le < T.nd ∧ 0 < le (wish T C how h le) ∧ T.wo h (wish T C how h le) ≠ -1) := by
  rcases wishN_in T C how h le T.nd.toNat with q | q
  · exact Or.inl q
  · exact Or.inr ⟨q.1, by have := q.2.1; have := hT.2.2.1; unfold wish; omega, q.2.2⟩
/-- how one asks: 0 kindly, 1 cheaply, 2 in return; sp: whose spite it is -/
def manner (T : TT) (C : CC) (sp : Int) (la : Int → Int) (g : Int) : Int := if g = sp then 2 else if C.kd g < 2 then C.kd g else if la g ≠ -8 ∧ truly T g (la g) < T.ct g then 2 else 0
def spc (C : CC) (c : Int) : Int := if c = 0 then C.sp else -1
/-- for whom the one in a seat asks -/
def tgt (C : CC) (s : Int) : Int := C.od ((s + C.st) % C.se)
def askD (T : TT) (C : CC) (c s : Int) (e : ES) : Int := wish T C (manner T C (spc C c) e.la (C.od s)) (tgt C s) e.le
def askS (T : TT) (C : CC) (c s : Int) (e : ES) : ES :=
  (if askD T C c s e < 0 then e.le else u1 e.le (askD T C c s e) (e.le (askD T C c s e) - 1),
   u1 e.la (tgt C s) (askD T C c s e),
   u2 e.go c (tgt C s) (askD T C c s e),
   if askD T C c s e < 0 then e.gl else u1 (u1 e.gl (tgt C s) (e.gl (tgt C s) + 10 * T.wo (tgt C s) (askD T C c s e))) (C.od s) (u1 e.gl (tgt C s) (e.gl (tgt C s) + 10 * T.wo (tgt C s) (askD T C c s e)) (C.od s) + T.kn (C.od s) * T.wo (tgt C s) (askD T C c s e)),
   if askD T C c s e < 0 then e.pa else u1 e.pa (C.od s) (e.pa (C.od s) + T.pr (askD T C c s e)))
def askN (T : TT) (C : CC) (c : Int) : Nat → ES → ES
  | 0, e => e
  | s + 1, e => askS T C c s (askN T C c s e)
def crsN (T : TT) (C : CC) : Nat → ES → ES
  | 0, e => e
  | c + 1, e => askN T C c C.se.toNat (crsN T C c e)
def ev0 (T : TT) (la : Int → Int) : ES := (T.mn, la, fun _ _ => -9, fun _ => 0, fun _ => 0)
/-- an evening, from what is remembered -/
def evE (T : TT) (C : CC) (la : Int → Int) : ES := crsN T C C.co.toNat (ev0 T la)
/-- what a heap's cells say of a told table at o; of a table at t; of what changes -/
def shT (I : qI) (o : Nat) (T : TT) : Prop := I o 6 = T.nd ∧ I o 7 = T.ng ∧ (∀ d, 0 ≤ d → d < T.nd → I (o + 1) d = T.mn d ∧ I (o + 2) d = T.pr d) ∧ ∀ g, 0 ≤ g → g < T.ng → I (o + 3) g = T.kd g ∧ I (o + 4) g = T.kn g ∧ I (o + 5) g = T.ct g ∧ ∀ d, 0 ≤ d → d < T.nd → I (o + 7 + g.toNat) d = T.wo g d
def shC (I : qI) (t : Nat) (T : TT) (C : CC) : Prop := I t 5 = C.se ∧ I t 6 = C.st ∧ I t 7 = C.co ∧ (∀ s, 0 ≤ s → s < C.se → I (t + 15) s = C.od s) ∧ ∀ g, 0 ≤ g → g < T.ng → I (t + 16) g = C.kd g ∧ ∀ d, 0 ≤ d → d < T.nd → I (t + 19 + g.toNat) d = C.sa g d
def LAok (T : TT) (la : Int → Int) : Prop := ∀ g, 0 ≤ g → g < T.ng → -9 ≤ la g ∧ la g < T.nd

