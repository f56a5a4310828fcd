/-! an evening of the table as it stands; the class's dine, gets, glad, pays -/
theorem Ct.mono {l : Launch} {E : qEv} {d : Nat} {M : qMD} {as : List Value} {S : qS} {mc ms : Nat} {F G : qPost} (h : Ct l E d M as S mc ms F) (hFG : ∀ v S', F v S' → G v S') : Ct l E d M as S mc ms G := by
  intro p e h1 h2 h3 s m args below h4 h5 h6 h7
  obtain ⟨n1, o1, w1, w2, w3, ⟨⟨⟨r, S', e1, e2, e3, e4⟩, e5⟩, e6⟩⟩ := h p e h1 h2 h3 s m args below h4 h5 h6 h7
  exact ⟨n1, o1, w1, w2, w3, ⟨⟨⟨r, S', e1, e2, hFG _ _ e3, e4⟩, e5⟩, e6⟩⟩
theorem askN_la2 {T : TT} (hT : T.ok) {C : CC} {c : Int} {e : ES} (h : LA2 T e.la) : ∀ k, LA2 T (askN T C c k e).la
  | 0 => h
  | k + 1 => fun g g0 g1 => by
    show -9 ≤ u1 (askN T C c k e).la (tgt C k) (askD T C c k (askN T C c k e)) g ∧ u1 (askN T C c k e).la (tgt C k) (askD T C c k (askN T C c k e)) g < T.nd ∧ (u1 (askN T C c k e).la (tgt C k) (askD T C c k (askN T C c k e)) g < 0 → u1 (askN T C c k e).la (tgt C k) (askD T C c k (askN T C c k e)) g ≤ -8)
    by_cases hq : g = tgt C k
    · have := askD_in hT C c k (askN T C c k e)
      have := hT.2.2.1
      rw [hq, u1_eq]
      omega
    · rw [u1_ne hq]
      exact askN_la2 hT h k g g0 g1
theorem crs_la2 {T : TT} (hT : T.ok) {C : CC} {e : ES} (h : LA2 T e.la) : ∀ c, LA2 T (crsN T C c e).la
  | 0 => h
  | c + 1 => askN_la2 hT (crs_la2 hT h c) _
theorem evE_la2 {T : TT} (hT : T.ok) {C : CC} {la : Int → Int} (h : LA2 T la) : LA2 T (evE T C la).la := crs_la2 (e := ev0 T la) hT h _
theorem askN_pa {T : TT} (hT : T.ok) {C : CC} {c : Int} {e : ES} {B : Int} (h : ∀ g, 0 ≤ e.pa g ∧ e.pa g ≤ B) : ∀ k : Nat, ∀ g, 0 ≤ (askN T C c k e).pa g ∧ (askN T C c k e).pa g ≤ B + 9 * k
  | 0, g => by
    have := h g
    show 0 ≤ e.pa g ∧ e.pa g ≤ B + 9 * ((0 : Nat) : Int)
    omega
  | k + 1, g => by
    have ih := askN_pa hT (C := C) (c := c) h k
    show 0 ≤ (if askD T C c k (askN T C c k e) < 0 then (askN T C c k e).pa else u1 (askN T C c k e).pa (C.od k) ((askN T C c k e).pa (C.od k) + T.pr (askD T C c k (askN T C c k e)))) g ∧ (if askD T C c k (askN T C c k e) < 0 then (askN T C c k e).pa else u1 (askN T C c k e).pa (C.od k) ((askN T C c k e).pa (C.od k) + T.pr (askD T C c k (askN T C c k e)))) g ≤ B + 9 * ((k + 1 : Nat) : Int)
    have hd := askD_in hT C c k (askN T C c k e)
    have i1 := ih g
    split
    · omega
    · have p := hT.2.2.2.2.1 (askD T C c k (askN T C c k e)) (by omega) (by omega)
      by_cases hq : g = C.od k
      · rw [hq, u1_eq]
        have i2 := ih (C.od k)
        omega
      · rw [u1_ne hq]
        omega
theorem crs_pa {T : TT} (hT : T.ok) {C : CC} (hC : C.ok T) {la : Int → Int} : ∀ c : Nat, ∀ g, 0 ≤ (crsN T C c (ev0 T la)).pa g ∧ (crsN T C c (ev0 T la)).pa g ≤ 63 * c
  | 0, g => by
    show (0 : Int) ≤ 0 ∧ (0 : Int) ≤ 63 * ((0 : Nat) : Int)
    omega
  | c + 1, g => by
    have h := askN_pa hT (C := C) (c := c) (crs_pa hT hC (la := la) c) C.se.toNat g
    have := hC.2.1
    have := hT.2.1
    show 0 ≤ (askN T C c C.se.toNat (crsN T C c (ev0 T la))).pa g ∧ (askN T C c C.se.toNat (crsN T C c (ev0 T la))).pa g ≤ _
    omega
theorem evE_pa {T : TT} (hT : T.ok) {C : CC} (hC : C.ok T) {la : Int → Int} (g : Int) : 0 ≤ (evE T C la).pa g ∧ (evE T C la).pa g ≤ 504 := by
  have h := crs_pa hT hC (la := la) C.co.toNat g
  have := hC.2.2.2.2.1
  have := hC.2.2.2.2.2.1
  unfold evE
  omega
theorem sumI_bd2 {f : Int → Int} {B : Int} {N : Int} (h : ∀ g, 0 ≤ g → g < N → 0 ≤ f g ∧ f g ≤ B) : ∀ k : Nat, (k : Int) ≤ N → 0 ≤ sumI f k ∧ sumI f k ≤ B * k
  | 0, _ => by
    show (0 : Int) ≤ 0 ∧ (0 : Int) ≤ B * ((0 : Nat) : Int)
    omega
  | k + 1, hk => by
    have := sumI_bd2 h k (by omega)
    have := h k (by omega) (by omega)
    show 0 ≤ sumI f k + f k ∧ sumI f k + f k ≤ B * ((k + 1 : Nat) : Int)
    have e : B * ((k + 1 : Nat) : Int) = B * (k : Int) + B := by rw [Int.natCast_add, Int.mul_add]; omega
    omega
/-- all are asked for, where all sit -/
theorem CC.now.all {C : CC} {T : TT} (h : C.now T) {g : Int} (g0 : 0 ≤ g) (g1 : g < T.ng) : ∃ s, 0 ≤ s ∧ s < C.se ∧ tgt C s = g := by
  obtain ⟨s, s0, s1, s2⟩ := h.2.2.2.2 g g0 g1
  have hse := h.2.1
  have hi := askSeat_in h.1 s
  exact ⟨askSeat C s, hi.1, hi.2, (askSeat_tgt h.1 s0 (by omega)).trans s2⟩
def evV (V : VV) : ES := evE V.T V.C V.la
def r_dine (V : VV) : Int := if 0 < V.T.ng then sumI (evV V).gl V.T.ng.toNat else -3
def s_dine (V : VV) : VV := if 0 < V.T.ng then (V.setNi (V.ni + 1)).setLa (evV V).la else V
def r_gets (V : VV) (g c : Int) : Int := if (0 ≤ g ∧ g < V.T.ng) ∧ 0 ≤ c ∧ c < V.C.co then (evV V).go c g else -1
def r_glad (V : VV) (g : Int) : Int := if 0 ≤ g ∧ g < V.T.ng then (evV V).gl g else -1
def r_pays (V : VV) (g a w : Int) : Int := if (0 ≤ g ∧ g < V.T.ng) ∧ (w = 0 ∨ w = 1) then (if a ≠ 0 then shareR (sumI (evV V).pa V.T.ng.toNat) V.T.ng w else shareR ((evV V).pa g) 1 w) else -9223372036854775808
theorem ever_up {b n : Nat} {sh : qSh} {R : qR} {e t : Nat} {i : Int} {v : Nat} (h : qEver b n sh R e) (hne : t < e ∨ e + 3 ≤ t) : qEver b n sh (up R t i v) e :=
  ⟨h.1, h.2.1, fun p hp => by
    have h1 := h.2.2 p hp
    have h2 : p.1 = 0 := by
      simp only [qEver_r, List.mem_cons, List.not_mem_nil, or_false] at hp
      rcases hp with rfl | rfl <;> rfl
    rw [up_na _ _ _ _ (by omega)]
    exact h1⟩
theorem best_up {b n : Nat} {sh : qSh} {R : qR} {e t : Nat} {i : Int} {v : Nat} (h : qBest b n sh R e) (hne : t < e ∨ e + 4 ≤ t) : qBest b n sh (up R t i v) e :=
  ⟨h.1, h.2.1, fun p hp => by
    have h1 := h.2.2 p hp
    have h2 : p.1 = 0 := by
      simp only [qBest_r, List.mem_cons, List.not_mem_nil, or_false] at hp
      rcases hp with rfl | rfl | rfl <;> rfl
    rw [up_na _ _ _ _ (by omega)]
    exact h1⟩
theorem seat_up {b n : Nat} {sh : qSh} {R : qR} {e t : Nat} {i : Int} {v : Nat} (h : qSeat b n sh R e) (hne : t < e ∨ e + 5 ≤ t) : qSeat b n sh (up R t i v) e :=
  ⟨h.1, h.2.1, fun p hp => by
    have h1 := h.2.2 p hp
    have h2 : p.1 = 0 ∨ p.1 = 2 := by
      simp only [qSeat_r, List.mem_cons, List.not_mem_nil, or_false] at hp
      rcases hp with rfl | rfl | rfl | rfl <;> first | exact Or.inl rfl | exact Or.inr rfl
    rw [up_na _ _ _ _ (by omega)]
    exact h1⟩
theorem sheet_up {b n : Nat} {sh : qSh} {R : qR} {e t : Nat} {i : Int} {v : Nat} (h : qSheet b n sh R e) (hne : t < e ∨ e + 2 ≤ t) : qSheet b n sh (up R t i v) e :=
  ⟨h.1, h.2.1, fun p hp => by
    have h1 := h.2.2 p hp
    have h2 : p.1 = 0 := by
      simp only [qSheet_r, List.mem_cons, List.not_mem_nil, or_false] at hp
      rcases hp with rfl <;> rfl
    rw [up_na _ _ _ _ (by omega)]
    exact h1⟩
/-- trial takes a text -/
theorem qRA.upT {b n : Nat} {sh : qSh} {R : qR} {x o d u1 u2 u3 v : Nat} (h : qRA b n sh R x o d u1 u2 u3) (hv : qTold b n sh R v) : qRA b n sh (up R (x + 68) 0 v) x o d u1 v u3 := by
  obtain ⟨a1, a2, a3, a4, a5, a6, a7, a8, a9, b1, b2, b3, b4, b5, b6, b7, b8, b9, c1, c2, c3, c4, c5⟩ := h
  have ob := b3.1.ob
  have f : ∀ (i : Int) (c : Nat), c ≠ x + 68 → up R (x + 68) 0 v c i = R c i := fun i c q => up_na _ _ _ _ q
  exact ⟨a1, a2, a3, by rw [f _ _ (by omega)]; exact a4, by rw [f _ _ (by omega)]; exact a5, told_upT a6 ob, by rw [f _ _ (by omega)]; exact a7, told_upT a8 ob, by rw [f _ _ (by omega)]; exact a9, tab_upo b1 ob (by omega), by rw [f _ _ (by omega)]; exact b2, tab_up b3 hv, by rw [f _ _ (by omega)]; exact b4, tab_upo b5 ob (by omega), by rw [f _ _ (by omega)]; exact b6, ever_up b7 (by omega), by rw [f _ _ (by omega)]; exact b8, ever_up b9 (by omega), by rw [f _ _ (by omega)]; exact c1, best_up c2 (by omega), by rw [f _ _ (by omega)]; exact c3, seat_up c4 (by omega), fun i hi => ⟨by rw [f _ _ (by omega)]; exact (c5 i hi).1, sheet_up (c5 i hi).2 (by omega)⟩⟩
/-- trial stands as now does -/
def triP (I I' : qI) (x : Nat) (V : VV) : Prop := (∀ b i, ¬ (x + 68 ≤ b ∧ b < x + 106) → I' b i = I b i) ∧ shC I' (x + 68) V.T V.C ∧ I' (x + 68) 8 = -1 ∧ ∀ g, 0 ≤ g → g < V.T.ng → I' (x + 68 + 17) g = V.la g
/-- behind an evening of trial -/
def tryP (I I' : qI) (x : Nat) (V : VV) : Prop := (∀ b i, ¬ (x + 68 ≤ b ∧ b < x + 106) → I' b i = I b i) ∧ shE I' (x + 68) V.T (evV V) ∧ ∀ c g, 0 ≤ c → c < V.C.co → 0 ≤ g → g < V.T.ng → I' (x + 68 + 28 + c.toNat) g = (evV V).go c g
section EVE2
variable {l : Launch} {E : qEv} {n : Nat} {sh : qSh} {I L : qI} {R : qR}
theorem CI0.otx {b x : Nat} {V : VV} {o d u1 u2 u3 : Nat} (h : CI0 b n sh x I L R V o d u1 u2 u3) : o + 14 ≤ x + 30 ∧ x + 2 ≤ o := by
  rcases h.2.1 with q | q <;> omega
theorem ct_tri {x : Nat} {V : VV} {o d u1 u2 u3 : Nat} (h : CI0 E.2.2 n sh x I L R V o d u1 u2 u3) (hp : 0 < V.T.ng) :
    Ct l E 1 mX4_become [.ref (x + 68), .ref (x + 30)] (n, sh, I, L, R) 0 0 (qV n sh (fun I' L' R' => L' = L ∧ R' = up R (x + 68) 0 o ∧ CI0 E.2.2 n sh x I' L R' V o d u1 o u3 ∧ triP I I' x V)) := by
  obtain ⟨t1, t2, t3, t4, t5, t6, t7⟩ := h.full hp
  have hX := h.1
  have hng := h.2.2.1.ng
  have hot := h.otx
  have e7 := h.2.2.2.2.2.2.2.1.1.2.1
  have hnow : qTab E.2.2 n sh R (x + 30) o := by rw [← t4]; exact hX.t3
  refine (ct_X4_become hX.t4 hnow (by omega) (by omega) e7 (by omega)).mono ?_
  rintro v S' ⟨I', L', R', rfl, rfl, rfl, rfl, f1, f2, f3, f4, f5, f6, f7⟩
  have hse := t2.2.1
  have hfr : ∀ b i, ¬ (x + 68 ≤ b ∧ b < x + 106) → I' b i = I b i := fun b i q => f1 b i (by omega) (by omega) (by omega)
  have hRA : qRA E.2.2 n sh (up R (x + 68) 0 o) x o d u1 o u3 := hX.upT hX.o1
  refine ⟨I', _, _, rfl, rfl, rfl, rfl, h.scr hRA ⟨rfl, rfl, rfl, rfl, rfl, rfl, rfl⟩ (fun b i q1 q2 => hfr b i (by omega)) (by rw [hfr _ _ (by omega)]; exact h.2.2.2.1) (by rw [hfr _ _ (by omega)]; exact h.2.2.2.2.1) (by rw [hfr _ _ (by omega)]; exact h.2.2.2.2.2.1), hfr, ⟨f2.trans t5.1, f3.trans t5.2.1, f4.trans t5.2.2.1, fun s s0 s1 => ?_, fun g g0 g1 => ⟨?_, fun d d0 d1 => ?_⟩⟩, f5.trans t6, fun g g0 g1 => ?_⟩
  · rw [(f6 s s0 (by omega)).1]
    exact t5.2.2.2.1 s s0 s1
  · rw [(f6 g g0 (by omega)).2.1]
    exact (t5.2.2.2.2 g g0 g1).1
  · rw [f7 g g0 (by omega) d d0 (by omega)]
    exact (t5.2.2.2.2 g g0 g1).2 d d0 d1
  · rw [(f6 g g0 (by omega)).2.2]
    exact t7 g g0 g1
end EVE2
