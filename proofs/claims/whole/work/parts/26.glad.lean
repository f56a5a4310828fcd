/-! how glad one is of a course: at its end -/
theorem mod_inj {n a b k : Int} (hn : 1 ≤ n ∧ n ≤ 7) (ha : 0 ≤ a ∧ a < n) (hb : 0 ≤ b ∧ b < n) (h : (a + k) % n = (b + k) % n) : a = b := by
  rcases (by omega : n = 1 ∨ n = 2 ∨ n = 3 ∨ n = 4 ∨ n = 5 ∨ n = 6 ∨ n = 7) with rfl | rfl | rfl | rfl | rfl | rfl | rfl <;> omega
/-- the seat from which one asks for him who sits in i -/
def askSeat (C : CC) (i : Int) : Int := (i - C.st) % C.se
theorem askSeat_in {T : TT} {C : CC} (hC : C.ok T) (i : Int) : 0 ≤ askSeat C i ∧ askSeat C i < C.se :=
  ⟨Int.emod_nonneg _ (by have := hC.1; omega), Int.emod_lt_of_pos _ (by have := hC.1; omega)⟩
theorem askSeat_tgt {T : TT} {C : CC} (hC : C.ok T) {i : Int} (h0 : 0 ≤ i) (h1 : i < C.se) : tgt C (askSeat C i) = C.od i := by
  unfold tgt askSeat
  rw [Int.emod_add_emod, show i - C.st + C.st = i by omega, Int.emod_eq_of_lt h0 h1]
theorem tgt_inj {T : TT} (hT : T.ok) {C : CC} (hC : C.ok T) {a b : Int} (ha : 0 ≤ a ∧ a < C.se) (hb : 0 ≤ b ∧ b < C.se) (h : tgt C a = tgt C b) : a = b := by
  have h1 := hC.2.2.2.2.2.2.2.2.2.1 _ _ (tgt_ix hC).1 (tgt_ix hC).2 (tgt_ix hC).1 (tgt_ix hC).2 h
  exact mod_inj ⟨hC.1, by have := hC.2.1; have := hT.2.1; omega⟩ ha hb h1
theorem od_inj {T : TT} {C : CC} (hC : C.ok T) {a b : Int} (ha : 0 ≤ a ∧ a < C.se) (hb : 0 ≤ b ∧ b < C.se) (h : C.od a = C.od b) : a = b := hC.2.2.2.2.2.2.2.2.2.1 _ _ ha.1 ha.2 hb.1 hb.2 h
theorem gl_step {T : TT} {C : CC} {c s : Int} {e : ES} (x : Int) : (askS T C c s e).gl x = e.gl x + (if x = tgt C s then 10 * truly T (tgt C s) (askD T C c s e) else 0) + (if x = C.od s then T.kn (C.od s) * truly T (tgt C s) (askD T C c s e) else 0) := by
  show (if askD T C c s e < 0 then e.gl else u1 (u1 e.gl (tgt C s) (e.gl (tgt C s) + 10 * T.wo (tgt C s) (askD T C c s e))) (C.od s) (u1 e.gl (tgt C s) (e.gl (tgt C s) + 10 * T.wo (tgt C s) (askD T C c s e)) (C.od s) + T.kn (C.od s) * T.wo (tgt C s) (askD T C c s e))) x = _
  unfold truly
  by_cases hd : askD T C c s e < 0
  · simp only [if_pos hd, Int.mul_zero, ite_self, Int.add_zero]
  · simp only [if_neg hd]
    unfold u1
    by_cases h1 : x = C.od s
    · subst h1
      by_cases h2 : C.od s = tgt C s
      · simp [h2]
      · simp [h2]
    · by_cases h2 : x = tgt C s
      · have h3 : ¬ tgt C s = C.od s := fun q => h1 (h2.trans q)
        simp [h2, h3]
      · simp [h1, h2]
theorem go_step {T : TT} {C : CC} {c s : Int} {e : ES} : (askS T C c s e).go = u2 e.go c (tgt C s) (askD T C c s e) := rfl
/-- who isn't in a seat -/
theorem gl_out {T : TT} {C : CC} {c : Int} {e : ES} (x : Int) (hx : ∀ s, 0 ≤ s → s < C.se → x ≠ C.od s) (hC : C.ok T) : ∀ k : Nat, (k : Int) ≤ C.se → (askN T C c k e).gl x = e.gl x
  | 0, _ => rfl
  | k + 1, hk => by
    have := gl_out (T := T) (C := C) (c := c) (e := e) x hx hC k (by omega)
    show (askS T C c k (askN T C c k e)).gl x = _
    rw [gl_step, this, if_neg (show ¬ x = tgt C k from hx _ (tgt_ix hC).1 (tgt_ix hC).2), if_neg (hx k (by omega) (by omega))]
    omega
/-- who is -/
theorem gl_in {T : TT} (hT : T.ok) {C : CC} {c : Int} {e : ES} (hC : C.ok T) {i : Int} (hi : 0 ≤ i ∧ i < C.se) : ∀ k : Nat, (k : Int) ≤ C.se → (askN T C c k e).gl (C.od i) = e.gl (C.od i) + (if askSeat C i < k then 10 * truly T (C.od i) ((askN T C c k e).go c (C.od i)) else 0) + (if i < k then T.kn (C.od i) * truly T (tgt C i) ((askN T C c k e).go c (tgt C i)) else 0)
  | 0, _ => by
    have := askSeat_in hC i
    rw [if_neg (by omega), if_neg (by omega)]
    show e.gl _ = _
    omega
  | k + 1, hk => by
    have ih := gl_in hT (c := c) (e := e) hC hi k (by omega)
    have ha := askSeat_in hC i
    have ht := askSeat_tgt hC hi.1 hi.2
    show (askS T C c k (askN T C c k e)).gl (C.od i) = _ + (if _ then 10 * truly T (C.od i) ((askS T C c k (askN T C c k e)).go c (C.od i)) else 0) + (if _ then T.kn (C.od i) * truly T (tgt C i) ((askS T C c k (askN T C c k e)).go c (tgt C i)) else 0)
    rw [gl_step, ih, go_step]
    have e1 : (if askSeat C i < (k : Int) then 10 * truly T (C.od i) ((askN T C c k e).go c (C.od i)) else 0) + (if C.od i = tgt C k then 10 * truly T (tgt C k) (askD T C c k (askN T C c k e)) else 0) = if askSeat C i < ((k + 1 : Nat) : Int) then 10 * truly T (C.od i) (u2 (askN T C c k e).go c (tgt C k) (askD T C c k (askN T C c k e)) c (C.od i)) else 0 := by
      by_cases hk2 : askSeat C i = k
      · rw [hk2] at ht ⊢
        rw [if_neg (by omega), if_pos ht.symm, if_pos (by omega), ← ht, u2_eq]
        omega
      · have hne : C.od i ≠ tgt C k := fun q => hk2 (tgt_inj hT hC ha ⟨by omega, by omega⟩ (ht.trans q))
        rw [if_neg hne, u2_ne (Or.inr hne)]
        by_cases h3 : askSeat C i < (k : Int)
        · rw [if_pos h3, if_pos (by omega)]
          omega
        · rw [if_neg h3, if_neg (by omega)]
          omega
    have e2 : (if i < (k : Int) then T.kn (C.od i) * truly T (tgt C i) ((askN T C c k e).go c (tgt C i)) else 0) + (if C.od i = C.od k then T.kn (C.od k) * truly T (tgt C k) (askD T C c k (askN T C c k e)) else 0) = if i < ((k + 1 : Nat) : Int) then T.kn (C.od i) * truly T (tgt C i) (u2 (askN T C c k e).go c (tgt C k) (askD T C c k (askN T C c k e)) c (tgt C i)) else 0 := by
      by_cases hk2 : i = k
      · subst hk2
        rw [if_neg (by omega), if_pos rfl, if_pos (by omega), u2_eq]
        omega
      · have hne : C.od i ≠ C.od k := fun q => hk2 (od_inj hC hi ⟨by omega, by omega⟩ q)
        have hne2 : tgt C i ≠ tgt C k := fun q => hk2 (tgt_inj hT hC hi ⟨by omega, by omega⟩ q)
        rw [if_neg hne, u2_ne (Or.inr hne2)]
        by_cases h3 : i < (k : Int)
        · rw [if_pos h3, if_pos (by omega)]
          omega
        · rw [if_neg h3, if_neg (by omega)]
          omega
    rw [← e1, ← e2]
    omega
/-- a whole course -/
theorem gl_course {T : TT} (hT : T.ok) {C : CC} {c : Int} {e : ES} (hC : C.ok T) {i : Int} (hi : 0 ≤ i ∧ i < C.se) : (askN T C c C.se.toNat e).gl (C.od i) = e.gl (C.od i) + (10 * truly T (C.od i) ((askN T C c C.se.toNat e).go c (C.od i)) + T.kn (C.od i) * truly T (tgt C i) ((askN T C c C.se.toNat e).go c (tgt C i))) := by
  have ha := askSeat_in hC i
  rw [gl_in hT hC hi C.se.toNat (by omega), if_pos (by omega), if_pos (by omega)]
  omega
