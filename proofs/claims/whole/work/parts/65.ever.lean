/-! ever: a memory comes again within 129 evenings -/
theorem pigeon : ∀ (N : Nat) (f : Nat → Int), (∀ i : Nat, i ≤ N → 0 ≤ f i ∧ f i < N) → ∃ i j : Nat, i < j ∧ j ≤ N ∧ f i = f j
  | 0, f, h => by
    have := h 0 (Nat.le_refl _)
    omega
  | N + 1, f, h => by
    by_cases hq : ∃ i : Nat, i ≤ N ∧ f i = f (N + 1)
    · obtain ⟨i, i1, i2⟩ := hq
      exact ⟨i, N + 1, by omega, Nat.le_refl _, i2⟩
    · have hne : ∀ i : Nat, i ≤ N → f i ≠ f (N + 1) := fun i hi q => hq ⟨i, hi, q⟩
      have hv := h (N + 1) (Nat.le_refl _)
      obtain ⟨i, j, i1, i2, i3⟩ := pigeon N (fun i => if f (N + 1) < f i then f i - 1 else f i) (fun i hi => by
        have a := h i (by omega)
        have b := hne i hi
        show 0 ≤ (if f (N + 1) < f i then f i - 1 else f i) ∧ (if f (N + 1) < f i then f i - 1 else f i) < (N : Int)
        split <;> omega)
      refine ⟨i, j, i1, by omega, ?_⟩
      have a := hne i (by omega)
      have b := hne j (by omega)
      have c : (if f (N + 1) < f i then f i - 1 else f i) = (if f (N + 1) < f j then f j - 1 else f j) := i3
      split at c <;> split at c <;> omega
/-- whether one is not content, by what he remembers -/
def bitC (T : TT) (la : Int → Int) (g : Int) : Int := if la g ≠ -8 ∧ truly T g (la g) < T.ct g then 1 else 0
def bitK (T : TT) (la : Int → Int) : Nat → Int
  | 0 => 0
  | k + 1 => 2 * bitK T la k + bitC T la k
theorem bitC_01 {T : TT} {la : Int → Int} (g : Int) : bitC T la g = 0 ∨ bitC T la g = 1 := by
  unfold bitC
  split
  · exact Or.inr rfl
  · exact Or.inl rfl
theorem bitK_in {T : TT} {la : Int → Int} : ∀ k : Nat, 0 ≤ bitK T la k ∧ bitK T la k < 2 ^ k
  | 0 => by
    show (0 : Int) ≤ 0 ∧ (0 : Int) < 2 ^ 0
    decide
  | k + 1 => by
    have ih := bitK_in (T := T) (la := la) k
    have b := bitC_01 (T := T) (la := la) k
    show 0 ≤ 2 * bitK T la k + bitC T la k ∧ 2 * bitK T la k + bitC T la k < 2 ^ (k + 1)
    have e : (2 : Int) ^ (k + 1) = 2 ^ k * 2 := Int.pow_succ 2 k
    omega
theorem bitK_inj {T : TT} {la lb : Int → Int} : ∀ k : Nat, bitK T la k = bitK T lb k → ∀ g : Int, 0 ≤ g → g < k → bitC T la g = bitC T lb g
  | 0, _, g, h0, h1 => by omega
  | k + 1, h, g, h0, h1 => by
    have e : 2 * bitK T la k + bitC T la k = 2 * bitK T lb k + bitC T lb k := h
    have b1 := bitC_01 (T := T) (la := la) k
    have b2 := bitC_01 (T := T) (la := lb) k
    by_cases hg : g = k
    · rw [hg]
      omega
    · exact bitK_inj k (by omega) g h0 (by omega)
theorem manner_bit {T : TT} {C : CC} {la lb : Int → Int} {sp g : Int} (h : bitC T la g = bitC T lb g) : manner T C sp la g = manner T C sp lb g := by
  unfold manner
  split
  · rfl
  · split
    · rfl
    · unfold bitC at h
      by_cases a : la g ≠ -8 ∧ truly T g (la g) < T.ct g <;> by_cases b : lb g ≠ -8 ∧ truly T g (lb g) < T.ct g
      · rw [if_pos a, if_pos b]
      · rw [if_pos a, if_neg b] at h
        omega
      · rw [if_neg a, if_pos b] at h
        omega
      · rw [if_neg a, if_neg b]
/-- alike but for what is remembered; who is not content is alike -/
def alk (T : TT) (e f : ES) : Prop := e.le = f.le ∧ e.go = f.go ∧ e.gl = f.gl ∧ e.pa = f.pa ∧ ∀ g, 0 ≤ g → g < T.ng → bitC T e.la g = bitC T f.la g
theorem alk_ask {T : TT} {C : CC} (hC : C.ok T) {c : Int} {s : Int} {e f : ES} (h : alk T e f) (s0 : 0 ≤ s) (s1 : s < C.se) : alk T (askS T C c s e) (askS T C c s f) ∧ askD T C c s e = askD T C c s f := by
  obtain ⟨h1, h2, h3, h4, h5⟩ := h
  have ho := od_in hC s0 s1
  have hD : askD T C c s e = askD T C c s f := by
    unfold askD
    rw [manner_bit (h5 _ ho.1 ho.2), h1]
  refine ⟨⟨?_, ?_, ?_, ?_, fun g g0 g1 => ?_⟩, hD⟩
  · show (if askD T C c s e < 0 then e.le else _) = (if askD T C c s f < 0 then f.le else _)
    rw [hD, h1]
  · show u2 e.go c (tgt C s) (askD T C c s e) = u2 f.go c (tgt C s) (askD T C c s f)
    rw [hD, h2]
  · show (if askD T C c s e < 0 then e.gl else _) = (if askD T C c s f < 0 then f.gl else _)
    rw [hD, h3]
  · show (if askD T C c s e < 0 then e.pa else _) = (if askD T C c s f < 0 then f.pa else _)
    rw [hD, h4]
  · show bitC T (u1 e.la (tgt C s) (askD T C c s e)) g = bitC T (u1 f.la (tgt C s) (askD T C c s f)) g
    unfold bitC
    by_cases hq : g = tgt C s
    · rw [hq, u1_eq, u1_eq, hD]
    · rw [u1_ne hq, u1_ne hq]
      exact h5 g g0 g1
theorem alk_askN {T : TT} {C : CC} (hC : C.ok T) {c : Int} {e f : ES} (h : alk T e f) : ∀ k : Nat, (k : Int) ≤ C.se → alk T (askN T C c k e) (askN T C c k f) ∧ ∀ g, (e.la g = f.la g ∨ ∃ s : Int, 0 ≤ s ∧ s < k ∧ g = tgt C s) → (askN T C c k e).la g = (askN T C c k f).la g
  | 0, _ => ⟨h, fun g hg => hg.elim (fun z => z) (fun ⟨s, s0, s1, _⟩ => by omega)⟩
  | k + 1, hk => by
    obtain ⟨i1, i2⟩ := alk_askN hC h k (by omega)
    obtain ⟨a1, a2⟩ := alk_ask hC (c := c) (s := (k : Int)) i1 (by omega) (by omega)
    refine ⟨a1, fun g hg => ?_⟩
    show u1 (askN T C c k e).la (tgt C k) (askD T C c k (askN T C c k e)) g = u1 (askN T C c k f).la (tgt C k) (askD T C c k (askN T C c k f)) g
    rw [a2]
    by_cases hq : g = tgt C k
    · rw [hq, u1_eq, u1_eq]
    · rw [u1_ne hq, u1_ne hq]
      refine i2 g (hg.elim Or.inl (fun ⟨s, s0, s1, s2⟩ => Or.inr ⟨s, s0, ?_, s2⟩))
      by_cases hs : s = k
      · exact absurd (by rw [← hs]; exact s2) hq
      · omega
/-- an evening goes by who is not content as it begins -/
theorem evE_bits {T : TT} {C : CC} (hC : C.ok T) (hall : ∀ g, 0 ≤ g → g < T.ng → ∃ s, 0 ≤ s ∧ s < C.se ∧ tgt C s = g) {la lb : Int → Int} (h : ∀ g, 0 ≤ g → g < T.ng → bitC T la g = bitC T lb g) {g : Int} (g0 : 0 ≤ g) (g1 : g < T.ng) : (evE T C la).la g = (evE T C lb).la g := by
  have hse := hC.1
  have key : ∀ c : Nat, alk T (crsN T C c (ev0 T la)) (crsN T C c (ev0 T lb)) ∧ (1 ≤ c → ∀ g, 0 ≤ g → g < T.ng → (crsN T C c (ev0 T la)).la g = (crsN T C c (ev0 T lb)).la g) := by
    intro c
    induction c with
    | zero => exact ⟨⟨rfl, rfl, rfl, rfl, h⟩, fun q => by omega⟩
    | succ c ih =>
      obtain ⟨a1, a2⟩ := alk_askN hC (c := (c : Int)) ih.1 C.se.toNat (by omega)
      refine ⟨a1, fun _ g g0 g1 => a2 g (Or.inr ?_)⟩
      obtain ⟨s, s0, s1, s2⟩ := hall g g0 g1
      exact ⟨s, s0, by omega, s2.symm⟩
  have hco := hC.2.2.2.2.1
  exact (key C.co.toNat).2 (by omega) g g0 g1
