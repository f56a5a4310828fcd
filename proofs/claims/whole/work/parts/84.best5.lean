/-! BEST, the reference's search, its math -/
/-- a choice's number: nothing behind all -/
def trC (T : TT) (x : Int) : Int := if x < 0 then T.nd else x
def rwT (T : TT) (t : Int → Int) : Int → Int := fun k => if t k = T.nd then -9 else t k
/-- rows ahead of a place in the search: these first choices t, the next choice below c -/
def cvB (T : TT) (g : Nat) (c : Int) (t r : Int → Int) : Prop := (∃ k : Nat, k < g ∧ (∀ j : Nat, j < k → trC T (r j) = t j) ∧ trC T (r k) < t k) ∨ ((∀ j : Nat, j < g → trC T (r j) = t j) ∧ trC T (r g) < c)
def bdB (T : TT) (wt : Int → Int) (g : Nat) (c : Int) (t : Int → Int) (bs : Int) (br : Int → Int) : Prop := (∀ r, rowOk T r → cvB T g c t r → 0 ≤ bs ∧ codeR T wt r T.ng.toNat ≤ codeR T wt br T.ng.toNat) ∧ (bs = -1 ∨ (0 ≤ bs ∧ rowOk T br ∧ bs = valR T wt br T.ng.toNat ∧ cvB T g c t br))
def pvB (T : TT) (G : Nat) (t : Int → Int) : Prop := (∀ k : Nat, k < G → 0 ≤ t k ∧ t k ≤ T.nd ∧ (t k ≠ T.nd → T.wo k (t k) ≠ -1)) ∧ ∀ e, 0 ≤ e → e < T.nd → cntR (rwT T t) e G ≤ T.mn e
def mfP (T : TT) (wt mf : Int → Int) : Prop := mf T.ng = 0 ∧ ∀ g : Nat, (g : Int) < T.ng → mf ((g : Int) + 1) ≤ mf g ∧ mf g ≤ mf ((g : Int) + 1) + 171 ∧ ∀ d, 0 ≤ d → d < T.nd → mf ((g : Int) + 1) + T.wo g d * wt g ≤ mf g
theorem cvB.cg {T : TT} {g : Nat} {c : Int} {t t' r : Int → Int} (h : cvB T g c t r) (e : ∀ j : Nat, j < g → t j = t' j) : cvB T g c t' r := by
  rcases h with ⟨k, k1, k2, k3⟩ | ⟨k1, k2⟩
  · exact Or.inl ⟨k, k1, fun j hj => by rw [← e j (by omega)]; exact k2 j hj, by rw [← e k k1]; exact k3⟩
  · exact Or.inr ⟨fun j hj => by rw [← e j hj]; exact k1 j hj, k2⟩
theorem bdB.cg {T : TT} {wt : Int → Int} {g : Nat} {c bs : Int} {t t' br : Int → Int} (h : bdB T wt g c t bs br) (e : ∀ j : Nat, j < g → t j = t' j) : bdB T wt g c t' bs br := by
  refine ⟨fun r hr hc => h.1 r hr (hc.cg (fun j hj => (e j hj).symm)), ?_⟩
  rcases h.2 with q | ⟨q0, q1, q2, q3⟩
  · exact Or.inl q
  · exact Or.inr ⟨q0, q1, q2, q3.cg e⟩
theorem pvB.cg {T : TT} {G : Nat} {t t' : Int → Int} (h : pvB T G t) (e : ∀ j : Nat, j < G → t j = t' j) : pvB T G t' := by
  refine ⟨fun k hk => by rw [← e k hk]; exact h.1 k hk, fun x x0 x1 => ?_⟩
  rw [← cntR_congr G (r := rwT T t) (fun j hj => by unfold rwT; rw [e j hj])]
  exact h.2 x x0 x1
theorem valR_congr {T : TT} {wt r r' : Int → Int} : ∀ n : Nat, (∀ j : Nat, j < n → r j = r' j) → valR T wt r n = valR T wt r' n
  | 0, _ => rfl
  | n + 1, h => by
    show valR T wt r n + vtm T wt n (r n) = valR T wt r' n + vtm T wt n (r' n)
    rw [valR_congr n (fun j hj => h j (by omega)), h n (by omega)]
theorem rowOk.dg {T : TT} (hT : T.ok) {r : Int → Int} (h : rowOk T r) : ∀ g : Nat, g < T.ng.toNat → 0 ≤ dgt (r g) ∧ dgt (r g) ≤ 9 := fun g hg => by
  have := hT.2.2.2.1
  unfold dgt
  rcases h.1 g (by omega) (by omega) with q | q <;> split <;> omega
theorem rowOk.un {T : TT} {r : Int → Int} (h : rowOk T r) {t : Int → Int} {g : Nat} (hg : (g : Int) < T.ng) (e : trC T (r g) = t g) : r g = rwT T t g := by
  unfold rwT
  rw [← e]
  unfold trC
  rcases h.1 g (by omega) hg with q | q
  · rw [q, if_pos (show (-9 : Int) < 0 by decide), if_pos rfl]
  · rw [if_neg (by omega), if_neg (by omega)]
theorem tr_dg {T : TT} (hnd : T.nd ≤ 6) {x y : Int} (hx : x = -9 ∨ (0 ≤ x ∧ x < T.nd)) (hy : y = -9 ∨ (0 ≤ y ∧ y < T.nd)) : (trC T x = trC T y → dgt x = dgt y) ∧ (trC T x < trC T y → dgt y < dgt x) := by
  have e1 : ∀ z : Int, z < 0 → trC T z = T.nd ∧ dgt z = 0 := fun z h => ⟨if_pos h, if_pos h⟩
  have e2 : ∀ z : Int, ¬ z < 0 → trC T z = z ∧ dgt z = 9 - z := fun z h => ⟨if_neg h, if_neg h⟩
  by_cases a : x < 0 <;> by_cases b : y < 0
  · have := e1 x a
    have := e1 y b
    omega
  · have := e1 x a
    have := e2 y b
    omega
  · have := e2 x a
    have := e1 y b
    omega
  · have := e2 x a
    have := e2 y b
    omega
/-- of two rows of the same gladness the sooner has the greater number -/
theorem cvB_lex {T : TT} (hT : T.ok) {wt : Int → Int} {g : Nat} {c : Int} {t r br : Int → Int} (hg : (g : Int) < T.ng) (hr : rowOk T r) (hb : rowOk T br) (hcv : cvB T g c t br) (hag : ∀ j : Nat, j < g → trC T (r j) = t j) (hc : c ≤ trC T (r g)) (hv : valR T wt r T.ng.toNat ≤ valR T wt br T.ng.toNat) : codeR T wt r T.ng.toNat ≤ codeR T wt br T.ng.toNat := by
  have hng := hT.2.1
  have hnd := hT.2.2.2.1
  obtain ⟨k, k1, k2, k3⟩ : ∃ k : Nat, k ≤ g ∧ (∀ j : Nat, j < k → trC T (br j) = trC T (r j)) ∧ trC T (br k) < trC T (r k) := by
    rcases hcv with ⟨k, k1, k2, k3⟩ | ⟨k1, k2⟩
    · exact ⟨k, by omega, fun j hj => by rw [k2 j hj, hag j (by omega)], by rw [hag k k1]; exact k3⟩
    · exact ⟨g, Nat.le_refl _, fun j hj => by rw [k1 j hj, hag j hj], by omega⟩
  have h1 := digR_bd (hr.dg hT) (by omega) T.ng.toNat (Nat.le_refl _)
  have h2 := digR_bd (hb.dg hT) (by omega) T.ng.toNat (Nat.le_refl _)
  have rg : ∀ x : Int → Int, rowOk T x → ∀ j : Nat, (j : Int) < T.ng → x j = -9 ∨ (0 ≤ x j ∧ x j < T.nd) := fun x hx j hj => by
    rcases hx.1 j (by omega) hj with q | q
    · exact Or.inl q
    · exact Or.inr ⟨q.1, q.2.1⟩
  have h3 := digR_lex (hb.dg hT) (hr.dg hT) (by omega) (k := k) (fun j hj => (tr_dg hnd (rg br hb j (by omega)) (rg r hr j (by omega))).1 (k2 j hj)) ((tr_dg hnd (rg br hb k (by omega)) (rg r hr k (by omega))).2 k3) T.ng.toNat (by omega) (Nat.le_refl _)
  have p : 0 ≤ p11 T.ng.toNat := by
    unfold p11
    exact Int.le_of_lt (Int.pow_pos (by decide))
  rw [codeR_split, codeR_split]
  omega
theorem bdB.skip {T : TT} {wt : Int → Int} {g : Nat} {c bs : Int} {t br : Int → Int} (hg : (g : Int) < T.ng) (h : bdB T wt g c t bs br) (hc : 0 ≤ c ∧ c < T.nd) (hn : T.wo g c = -1 ∨ T.mn c ≤ cntR (rwT T t) c g) : bdB T wt g (c + 1) t bs br := by
  refine ⟨fun r hr hcv => ?_, ?_⟩
  · rcases hcv with q | ⟨k1, k2⟩
    · exact h.1 r hr (Or.inl q)
    · by_cases e : trC T (r g) < c
      · exact h.1 r hr (Or.inr ⟨k1, e⟩)
      · exfalso
        have e2 : r g = c := by
          unfold trC at e k2
          rcases hr.1 g (by omega) hg with z | z
          · rw [z, if_pos (by omega)] at e k2
            omega
          · rw [if_neg (by omega)] at e k2
            omega
        rcases hn with z | z
        · rcases hr.1 g (by omega) hg with y | y
          · omega
          · rw [e2] at y
            exact y.2.2 z
        · have a := hr.2 c hc.1 hc.2
          have b : cntR r c (g + 1) ≤ cntR r c T.ng.toNat := by
            have mono : ∀ n : Nat, g + 1 ≤ n → cntR r c (g + 1) ≤ cntR r c n := fun n => by
              induction n with
              | zero => intro q; omega
              | succ n ih =>
                intro q
                by_cases w : g + 1 = n + 1
                · rw [w]
                  exact Int.le_refl _
                · refine Int.le_trans (ih (by omega)) ?_
                  show _ ≤ cntR r c n + (if r n = c then 1 else 0)
                  split <;> omega
            exact mono _ (by omega)
          have d : cntR r c (g + 1) = cntR r c g + (if r g = c then 1 else 0) := rfl
          rw [if_pos e2, cntR_congr g (r' := rwT T t) (fun j hj => hr.un (by omega) (k1 j hj))] at d
          omega
  · rcases h.2 with q | ⟨q0, q1, q2, q3⟩
    · exact Or.inl q
    · refine Or.inr ⟨q0, q1, q2, ?_⟩
      rcases q3 with z | ⟨z1, z2⟩
      · exact Or.inl z
      · exact Or.inr ⟨z1, by omega⟩
theorem trC_le {T : TT} (hT : T.ok) {r : Int → Int} (hr : rowOk T r) {g : Nat} (hg : (g : Int) < T.ng) : 0 ≤ trC T (r g) ∧ trC T (r g) ≤ T.nd := by
  have := hT.2.2.1
  unfold trC
  rcases hr.1 g (by omega) hg with z | z <;> split <;> omega
theorem bdB.pop {T : TT} (hT : T.ok) {wt : Int → Int} {g : Nat} {bs : Int} {t br : Int → Int} (hg : ((g + 1 : Nat) : Int) < T.ng) (h : bdB T wt (g + 1) (T.nd + 1) t bs br) : bdB T wt g (t g + 1) t bs br := by
  have key : ∀ r, rowOk T r → (cvB T (g + 1) (T.nd + 1) t r ↔ cvB T g (t g + 1) t r) := fun r hr => by
    have := trC_le hT hr hg
    constructor
    · rintro (⟨k, k1, k2, k3⟩ | ⟨k1, k2⟩)
      · by_cases e : k = g
        · subst e
          exact Or.inr ⟨k2, by omega⟩
        · exact Or.inl ⟨k, by omega, k2, k3⟩
      · exact Or.inr ⟨fun j hj => k1 j (by omega), by have := k1 g (by omega); omega⟩
    · rintro (⟨k, k1, k2, k3⟩ | ⟨k1, k2⟩)
      · exact Or.inl ⟨k, by omega, k2, k3⟩
      · by_cases e : trC T (r g) = t g
        · refine Or.inr ⟨fun j hj => ?_, by omega⟩
          by_cases z : j = g
          · subst z
            exact e
          · exact k1 j (by omega)
        · exact Or.inl ⟨g, by omega, k1, by omega⟩
  refine ⟨fun r hr hc => h.1 r hr ((key r hr).2 hc), ?_⟩
  rcases h.2 with q | ⟨q0, q1, q2, q3⟩
  · exact Or.inl q
  · exact Or.inr ⟨q0, q1, q2, (key br q1).1 q3⟩
theorem bdB.deep {T : TT} (hT : T.ok) {wt : Int → Int} {g : Nat} {bs : Int} {t br : Int → Int} (hg : ((g + 1 : Nat) : Int) < T.ng) (h : bdB T wt g (t g) t bs br) : bdB T wt (g + 1) 0 t bs br := by
  have key : ∀ r, rowOk T r → (cvB T (g + 1) 0 t r ↔ cvB T g (t g) t r) := fun r hr => by
    have := trC_le hT hr hg
    constructor
    · rintro (⟨k, k1, k2, k3⟩ | ⟨k1, k2⟩)
      · by_cases e : k = g
        · subst e
          exact Or.inr ⟨k2, k3⟩
        · exact Or.inl ⟨k, by omega, k2, k3⟩
      · omega
    · rintro (⟨k, k1, k2, k3⟩ | ⟨k1, k2⟩)
      · exact Or.inl ⟨k, by omega, k2, k3⟩
      · exact Or.inl ⟨g, by omega, k1, k2⟩
  refine ⟨fun r hr hc => h.1 r hr ((key r hr).1 hc), ?_⟩
  rcases h.2 with q | ⟨q0, q1, q2, q3⟩
  · exact Or.inl q
  · exact Or.inr ⟨q0, q1, q2, (key br q1).2 q3⟩
/-- rows that go on so come to no more -/
theorem valR_most {T : TT} {wt mf r t : Int → Int} (hm : mfP T wt mf) {G : Nat} (hr : rowOk T r) (hag : ∀ j : Nat, j < G → trC T (r j) = t j) (hG : (G : Int) ≤ T.ng) : valR T wt r T.ng.toNat ≤ valR T wt (rwT T t) G + mf G := by
  have e : valR T wt r G = valR T wt (rwT T t) G := valR_congr G (fun j hj => hr.un (by omega) (hag j hj))
  have step : ∀ n : Nat, G ≤ n → (n : Int) ≤ T.ng → valR T wt r n + mf n ≤ valR T wt r G + mf G := fun n => by
    induction n with
    | zero => intro q _; rw [show G = 0 by omega]; exact Int.le_refl _
    | succ n ih =>
      intro q1 q2
      by_cases w : G = n + 1
      · rw [w]
        exact Int.le_refl _
      · have i := ih (by omega) (by omega)
        obtain ⟨m1, m2, m3⟩ := hm.2 n (by omega)
        have x : valR T wt r (n + 1) = valR T wt r n + vtm T wt n (r n) := rfl
        have y : vtm T wt n (r n) + mf ((n : Int) + 1) ≤ mf n := by
          unfold vtm
          split
          · omega
          · rcases hr.1 n (by omega) (by omega) with z | z
            · omega
            · have := m3 (r n) z.1 z.2.1
              rw [Int.mul_comm (wt n)]
              omega
        have z : ((n + 1 : Nat) : Int) = (n : Int) + 1 := rfl
        rw [z, x]
        omega
  have s := step T.ng.toNat (by omega) (by omega)
  have z : mf ((T.ng.toNat : Nat) : Int) = 0 := by
    rw [show ((T.ng.toNat : Nat) : Int) = T.ng by omega]
    exact hm.1
  omega
theorem bdB.prune {T : TT} (hT : T.ok) {wt mf : Int → Int} (hm : mfP T wt mf) {g : Nat} {bs : Int} {t br : Int → Int} (hg : (g : Int) < T.ng) (h : bdB T wt g (t g) t bs br) (hbs : 0 ≤ bs) (hle : valR T wt (rwT T t) (g + 1) + mf ((g : Int) + 1) ≤ bs) : bdB T wt g (t g + 1) t bs br := by
  rcases h.2 with q | ⟨q0, q1, q2, q3⟩
  · omega
  · refine ⟨fun r hr hc => ?_, Or.inr ⟨q0, q1, q2, ?_⟩⟩
    · rcases hc with z | ⟨z1, z2⟩
      · exact h.1 r hr (Or.inl z)
      · by_cases e : trC T (r g) < t g
        · exact h.1 r hr (Or.inr ⟨z1, e⟩)
        · refine ⟨q0, cvB_lex hT hg hr q1 q3 z1 (by omega) ?_⟩
          have := valR_most hm (G := g + 1) (t := t) hr (fun j hj => by
            by_cases y : j = g
            · subst y
              omega
            · exact z1 j (by omega)) (by omega)
          have y : mf (((g + 1 : Nat) : Int)) = mf ((g : Int) + 1) := rfl
          omega
    · rcases q3 with z | ⟨z1, z2⟩
      · exact Or.inl z
      · exact Or.inr ⟨z1, by omega⟩
theorem pvB.row {T : TT} {t : Int → Int} (h : pvB T T.ng.toNat t) : rowOk T (rwT T t) := by
  refine ⟨fun g g0 g1 => ?_, fun d d0 d1 => h.2 d d0 d1⟩
  obtain ⟨k, rfl⟩ := Int.eq_ofNat_of_zero_le g0
  obtain ⟨a, b, c⟩ := h.1 k (by omega)
  unfold rwT
  split
  · exact Or.inl rfl
  · rename_i q
    exact Or.inr ⟨a, by omega, c q⟩
theorem pvB.tr {T : TT} (hT : T.ok) {t : Int → Int} {G : Nat} (h : pvB T G t) {j : Nat} (hj : j < G) : trC T (rwT T t j) = t j := by
  have := hT.2.2.1
  obtain ⟨a, b, c⟩ := h.1 j hj
  unfold trC rwT
  split <;> split at * <;> omega
theorem bdB.keep {T : TT} (hT : T.ok) {wt : Int → Int} {g : Nat} {bs : Int} {t br : Int → Int} (hg : (g : Int) = T.ng - 1) (hp : pvB T T.ng.toNat t) (h : bdB T wt g (t g) t bs br) (hv0 : 0 ≤ valR T wt (rwT T t) T.ng.toNat) :
    (valR T wt (rwT T t) T.ng.toNat ≤ bs → bdB T wt g (t g + 1) t bs br) ∧ (bs < valR T wt (rwT T t) T.ng.toNat → bdB T wt g (t g + 1) t (valR T wt (rwT T t) T.ng.toNat) (rwT T t)) := by
  have hng := hT.2.1
  have hng0 := hT.1
  have same : ∀ r, rowOk T r → (∀ j : Nat, j < g → trC T (r j) = t j) → trC T (r g) = t g → ∀ j : Nat, j < T.ng.toNat → r j = rwT T t j := fun r hr z1 z2 j hj => hr.un (by omega) (by
    by_cases y : j = g
    · subst y
      exact z2
    · exact z1 j (by omega))
  constructor
  · intro hle
    rcases h.2 with q | ⟨q0, q1, q2, q3⟩
    · omega
    · refine ⟨fun r hr hc => ?_, Or.inr ⟨q0, q1, q2, ?_⟩⟩
      · rcases hc with z | ⟨z1, z2⟩
        · exact h.1 r hr (Or.inl z)
        · by_cases e : trC T (r g) < t g
          · exact h.1 r hr (Or.inr ⟨z1, e⟩)
          · refine ⟨q0, cvB_lex hT (by omega) hr q1 q3 z1 (by omega) ?_⟩
            rw [valR_congr (r' := rwT T t) T.ng.toNat (same r hr z1 (by omega))]
            omega
      · rcases q3 with z | ⟨z1, z2⟩
        · exact Or.inl z
        · exact Or.inr ⟨z1, by omega⟩
  · intro hlt
    have hrow := hp.row
    refine ⟨fun r hr hc => ⟨hv0, ?_⟩, Or.inr ⟨hv0, hrow, rfl, Or.inr ⟨fun j hj => hp.tr hT (by omega), by rw [hp.tr hT (by omega)]; omega⟩⟩⟩
    have old : cvB T g (t g) t r → codeR T wt r T.ng.toNat ≤ codeR T wt (rwT T t) T.ng.toNat := fun z => by
      obtain ⟨a, b⟩ := h.1 r hr z
      rcases h.2 with q | ⟨q0, q1, q2, q3⟩
      · omega
      · have h1 := digR_bd (q1.dg hT) (by omega) T.ng.toNat (Nat.le_refl _)
        have h2 := digR_bd (hrow.dg hT) (by omega) T.ng.toNat (Nat.le_refl _)
        have p : 0 < p11 T.ng.toNat := by
          unfold p11
          exact Int.pow_pos (by decide)
        rw [codeR_split T wt br] at b
        rw [codeR_split T wt (rwT T t)]
        omega
    rcases hc with z | ⟨z1, z2⟩
    · exact old (Or.inl z)
    · by_cases e : trC T (r g) < t g
      · exact old (Or.inr ⟨z1, e⟩)
      · rw [codeR_congr (wt' := wt) (r' := rwT T t) T.ng.toNat (fun j hj => ⟨same r hr z1 (by omega) j hj, rfl⟩)]
        exact Int.le_refl _
theorem bdB.done {T : TT} (hT : T.ok) {C : CC} {wt : Int → Int} (hw : isWt T C wt) {bs : Int} {t br : Int → Int} (h : bdB T wt 0 (T.nd + 1) t bs br) : isBest T C (codeR T wt br T.ng.toNat) ∧ rowOk T br ∧ bs = valR T wt br T.ng.toNat := by
  have hng0 := hT.1
  have all : ∀ r, rowOk T r → 0 ≤ bs ∧ codeR T wt r T.ng.toNat ≤ codeR T wt br T.ng.toNat := fun r hr => h.1 r hr (Or.inr ⟨fun j hj => absurd hj (by omega), by
    have := trC_le hT hr (g := 0) (by omega)
    omega⟩)
  have h9 : rowOk T (fun _ => -9) := ⟨fun _ _ _ => Or.inl rfl, fun d d0 d1 => by rw [cnt_none d0]; have := (hT.2.2.2.2.1 d d0 d1).1; omega⟩
  have b0 := (all _ h9).1
  rcases h.2 with q | ⟨q0, q1, q2, q3⟩
  · omega
  · exact ⟨⟨wt, hw, ⟨br, q1, rfl⟩, fun r hr => (all r hr).2⟩, q1, q2⟩
theorem bdB.init {T : TT} (hT : T.ok) {wt : Int → Int} {t br : Int → Int} : bdB T wt 0 0 t (-1) br := by
  have hng0 := hT.1
  refine ⟨fun r hr hc => ?_, Or.inl rfl⟩
  rcases hc with ⟨k, k1, -⟩ | ⟨-, k2⟩
  · omega
  · have := trC_le hT hr (g := 0) (by omega)
    omega
/-- how much is left to try -/
def muB (T : TT) (t : Int → Int) : Nat → Int
  | 0 => 0
  | k + 1 => muB T t k + (T.nd + 1 - t k) * 16 ^ (7 - k)
theorem muB_congr {T : TT} {t t' : Int → Int} : ∀ n : Nat, (∀ j : Nat, j < n → t j = t' j) → muB T t n = muB T t' n
  | 0, _ => rfl
  | n + 1, h => by
    show muB T t n + (T.nd + 1 - t n) * 16 ^ (7 - n) = muB T t' n + (T.nd + 1 - t' n) * 16 ^ (7 - n)
    rw [muB_congr n (fun j hj => h j (by omega)), h n (by omega)]
theorem q16 (k : Nat) : (1 : Int) ≤ 16 ^ (7 - k) := Int.pow_pos (by decide)
theorem q16_s {k : Nat} (h : k < 7) : (16 : Int) ^ (7 - k) = 16 * 16 ^ (7 - (k + 1)) := by
  rw [show 7 - k = (7 - (k + 1)) + 1 by omega, Int.pow_succ]
  omega
