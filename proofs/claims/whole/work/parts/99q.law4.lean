/-! THE LAW: both are made, and show the state at the start -/
def T0 : TT := (0, 0, fun _ => 0, fun _ => 0, fun _ => 0, fun _ => 0, fun _ => 0, fun _ _ => 0)
def C0 : CC := (fun _ _ => 0, fun _ => 0, fun _ => 0, 0, 0, 0, 0)
def V0 : VV := (T0, C0, fun _ => 0, 0, 0, 0, fun _ => 0, fun _ => 0, fun _ => 0, fun _ _ => 0)
theorem V0_in : in32 0 := ⟨by decide, by decide⟩
theorem V0_ok : V0.ok := ⟨fun k _ _ => ⟨Or.inl rfl, V0_in, Int.le_refl _, by show (0 : Int) ≤ 100; decide, fun _ _ _ => V0_in⟩, Or.inl ⟨rfl, rfl⟩⟩
theorem V0_no {d : Int} (h0 : 0 ≤ d) (h1 : d < 0) {P : Prop} : P := absurd h1 (by omega)
theorem CI_V0 {b n : Nat} {sh : qSh} {x : Nat} {I L : qI} {R : qR} (hR : qRA b n sh R x (x + 2) (x + 16) (x + 30 + 1) (x + 68 + 1) (x + 106 + 1)) (hI : ∀ c i, x ≤ c → c < x + 167 → (i = 8 → x + 150 ≤ c) → c ≠ x + 144 → c ≠ x + 147 → I c i = 0) : CI b n sh x I L R V0 := by
  have h : ∀ c i, x ≤ c ∧ c < x + 167 ∧ (i ≠ 8 ∨ x + 150 ≤ c) ∧ c ≠ x + 144 ∧ c ≠ x + 147 → I c i = 0 := fun c i q => hI c i q.1 q.2.1 (by omega) q.2.2.2.1 q.2.2.2.2
  refine ⟨_, _, _, _, _, hR, Or.inl ⟨rfl, rfl⟩, V0_ok, h _ _ (by omega), h _ _ (by omega), h _ _ (by omega), fun k k0 k1 => ⟨h _ _ (by omega), h _ _ (by omega), h _ _ (by omega), fun i i0 i1 => h _ _ (by omega)⟩, ⟨⟨h _ _ (by omega), h _ _ (by omega), fun d d0 d1 => V0_no d0 d1, fun g g0 g1 => V0_no g0 g1⟩, Or.inl ⟨rfl, h _ _ (by omega), h _ _ (by omega)⟩⟩, Or.inl (h _ _ (by omega)), Or.inl (h _ _ (by omega))⟩
theorem MI_V0 {I : qI} {m : Nat} (h1 : ∀ k, 0 ≤ k → k < 4 → I (m + 1) k = -9) (hI : ∀ c i, m ≤ c → c < m + 36 → c ≠ m + 1 → I c i = 0) : MI I m V0 := by
  have h : ∀ c i, m ≤ c ∧ c < m + 36 ∧ c ≠ m + 1 → I c i = 0 := fun c i q => hI c i q.1 q.2.1 q.2.2
  exact ⟨V0_ok, h _ _ (by omega), h _ _ (by omega), h _ _ (by omega), fun k k0 k1 => ⟨(h1 k k0 k1).trans (if_neg (show ¬ ((0 : Int) = 1) by decide)).symm, h _ _ (by omega), fun i _ _ => h _ _ (by omega)⟩, ⟨h _ _ (by omega), h _ _ (by omega), fun d d0 d1 => V0_no d0 d1, fun g g0 g1 => V0_no g0 g1⟩, fun z => absurd z (by show ¬ ((0 : Int) < 0); decide)⟩
theorem qRA.mono {b n n' : Nat} {sh sh' : qSh} {R R' : qR} {x : Nat} (h : qRA b n sh R x (x + 2) (x + 16) (x + 30 + 1) (x + 68 + 1) (x + 106 + 1)) (hn : n ≤ n') (hs : ∀ a, x ≤ a → a < x + 167 → sh' a = sh a) (hR : ∀ a i, x ≤ a → a < x + 167 → R' a i = R a i) : qRA b n' sh' R' x (x + 2) (x + 16) (x + 30 + 1) (x + 68 + 1) (x + 106 + 1) := by
  obtain ⟨z0, z1, z2, z3, ⟨z4, y4⟩, z5, ⟨z6, y6⟩, z7, z8, z9, z10, z11, z12, z13, z14, z15, z16, z17, z18, z19, z20, z21, z22⟩ := h
  have r : ∀ i, R' x i = R x i := fun i => hR x i (by omega) (by omega)
  exact ⟨z0, z1.mono hn (hs _ (by omega) (by omega)), z2.mono hn (hs _ (by omega) (by omega)), (r 0).trans z3, ⟨(r 1).trans z4, y4⟩, z5.mono hn (fun a h1 h2 => hs a (by omega) (by omega)) (fun a i h1 h2 => hR a i (by omega) (by omega)), ⟨(r 2).trans z6, y6⟩, z7.mono hn (fun a h1 h2 => hs a (by omega) (by omega)) (fun a i h1 h2 => hR a i (by omega) (by omega)), (r 3).trans z8, z9.mono hn (fun a h1 h2 => hs a (by omega) (by omega)) (fun a i h1 h2 => hR a i (by omega) (by omega)), (r 4).trans z10, z11.mono hn (fun a h1 h2 => hs a (by omega) (by omega)) (fun a i h1 h2 => hR a i (by omega) (by omega)), (r 5).trans z12, z13.mono hn (fun a h1 h2 => hs a (by omega) (by omega)) (fun a i h1 h2 => hR a i (by omega) (by omega)), (r 6).trans z14, z15.mono hn (fun a h1 h2 => hs a (by omega) (by omega)) (fun a i h1 h2 => hR a i (by omega) (by omega)), (r 7).trans z16, z17.mono hn (fun a h1 h2 => hs a (by omega) (by omega)) (fun a i h1 h2 => hR a i (by omega) (by omega)), (r 8).trans z18, z19.mono hn (fun a h1 h2 => hs a (by omega) (by omega)) (fun a i h1 h2 => hR a i (by omega) (by omega)), (r 9).trans z20, z21.mono hn (fun a h1 h2 => hs a (by omega) (by omega)) (fun a i h1 h2 => hR a i (by omega) (by omega)), fun i hi => ⟨(hR _ _ (by omega) (by omega)).trans (z22 i hi).1, (z22 i hi).2.mono hn (fun a h1 h2 => hs a (by omega) (by omega)) (fun a i h1 h2 => hR a i (by omega) (by omega))⟩⟩
section LAW5
variable {l : Launch} {E : qEv} {Q : List Frame → Array Value → State → State → Prop} {b N : Nat} {xs : Nat → Int32}
def S0 : qS := (0, fun _ => (0, 0), fun _ _ => 0, fun _ _ => 0, fun _ _ => 0)
theorem lw_open (hb : 0 < E.2.2) (hL : N ≤ 3072) (Ke : ∀ (lo : List (Nat × Value)) (S' : qS), Wk l E (lwY E Q b N xs) mL 203 4287 1269 lo [.int (zI 1)] S') : Wk l E (lwY E Q b N xs) mL 0 0 0 [(0, .ref b)] [] S0 := by
  unfold S0
  have hz : qZr (E.2.2 + 0) (fun _ _ => 0) (fun _ _ => 0) (fun _ _ => 0) := fun _ _ _ => ⟨rfl, rfl, rfl⟩
  generalize hI0 : (fun (_ : Nat) (_ : Int) => (0 : Int)) = I0 at hz ⊢
  have zI0 : ∀ c i, I0 c i = 0 := fun c i => by rw [← hI0]
  generalize hR0 : (fun (_ : Nat) (_ : Int) => (0 : Nat)) = R0 at hz ⊢
  have zR0 : ∀ c i, R0 c i = 0 := fun c i => by rw [← hR0]
  refine wk_mk (host := "") (ci := 6) (d := 3) (mc := 166) (ms := 1978) (o := E.2.2) (n' := 167) (k' := 167) (j' := 1991) (G := (fun sh' I' R' => I' = (up (up (up (up (up I0 (E.2.2 + 30) 8 (-1)) (E.2.2 + 68) 8 (-1)) (E.2.2 + 106) 8 (-1)) (E.2.2 + 144) 3 1) (E.2.2 + 147) 3 1) ∧ qRA E.2.2 167 sh' R' E.2.2 (E.2.2 + 2) (E.2.2 + 16) (E.2.2 + 30 + 1) (E.2.2 + 68 + 1) (E.2.2 + 106 + 1) ∧ ∀ b i, ¬ (E.2.2 ≤ b ∧ b < E.2.2 + 167) → R' b i = R0 b i)) dL_law_0 dL_law_3 dL_law_4 (q := 7) rfl ck_6 (qtb_in 87 (by decide +kernel) (by decide +kernel)) (qtb_in 88 (by decide +kernel) (by decide +kernel)) (qtb_in 76 (by decide +kernel) (by decide +kernel)) df_6 hz (Nat.le_of_ble_eq_true rfl) (Nat.le_of_ble_eq_true rfl) ok_X6_init (Or.inr (qtb_in 89 (by decide +kernel) (by decide +kernel))) (qtb_in 90 (by decide +kernel) (by decide +kernel)) rfl rfl rfl (by omega) (by omega) rfl rfl (fun sh1 g1 g2 => (ct_X6_init (x := E.2.2) hb g1 (by omega) hz.up1).mono (fun v S' q => by obtain ⟨e1, sh', R', e2, f1, f2, f3⟩ := q; exact ⟨e1, sh', _, R', e2, fun b hb => f2 b (by omega), rfl, f1, f3⟩)) ⟨Nat.le_of_ble_eq_true rfl, Nat.le_of_ble_eq_true rfl, Nat.le_of_ble_eq_true rfl, Nat.le_of_ble_eq_true rfl⟩ (Nat.le_of_ble_eq_true rfl) (fun s4 J4 R4 hs4 hg4 => ?_)
  obtain ⟨e4, g4, r4⟩ := hg4
  have hz1 : qZr (E.2.2 + 167) J4 I0 R4 := fun c i q => ⟨by subst e4; (repeat (first | rw [up_na _ _ _ _ (by omega)])); exact zI0 _ _, zI0 _ _, (r4 c i (by omega)).trans (zR0 _ _)⟩
  refine wk_astore_n (i := 1) (lo' := [(0, _), (1, _)]) (q := 8) dL_law_7 rfl rfl (by decide) rfl ?_
  refine wk_mk (host := "") (ci := 7) (d := 1) (mc := 35) (ms := 2245) (o := E.2.2 + 167) (n' := 203) (k' := 203) (j' := 4287) (G := (fun sh' I' R' => I' = (up (up (up (up J4 (E.2.2 + 167 + 1) 0 (-9)) (E.2.2 + 167 + 1) 1 (-9)) (E.2.2 + 167 + 1) 2 (-9)) (E.2.2 + 167 + 1) 3 (-9)) ∧ qMod E.2.2 203 sh' R' (E.2.2 + 167) ∧ ∀ b i, ¬ (E.2.2 + 167 ≤ b ∧ b < E.2.2 + 167 + 36) → R' b i = R4 b i)) dL_law_8 dL_law_11 dL_law_12 (q := 15) rfl ck_7 (qtb_in 787 (by decide +kernel) (by decide +kernel)) (qtb_in 788 (by decide +kernel) (by decide +kernel)) (qtb_in 83 (by decide +kernel) (by decide +kernel)) df_7 hz1 (Nat.le_of_ble_eq_true rfl) (Nat.le_of_ble_eq_true rfl) ok_X7_init (Or.inr (qtb_in 789 (by decide +kernel) (by decide +kernel))) (qtb_in 790 (by decide +kernel) (by decide +kernel)) rfl rfl rfl (by omega) (by omega) rfl rfl (fun sh1 g1 g2 => (ct_X7_init (m := E.2.2 + 167) hb g1 (by omega) hz1.up1).mono (fun v S' q => by obtain ⟨e1, sh', R', e2, f1, f2, f3⟩ := q; exact ⟨e1, sh', _, R', e2, fun b hb => f2 b (by omega), rfl, f1, f3⟩)) ⟨Nat.le_of_ble_eq_true rfl, Nat.le_of_ble_eq_true rfl, Nat.le_of_ble_eq_true rfl, Nat.le_of_ble_eq_true rfl⟩ (Nat.le_of_ble_eq_true rfl) (fun s12 J12 R12 hs12 hg12 => ?_)
  obtain ⟨e12, g12, r12⟩ := hg12
  refine wk_astore_n (i := 2) (lo' := [(0, _), (1, _), (2, _)]) (q := 16) dL_law_15 rfl rfl (by decide) rfl ?_
  refine wk_iconst (q := 17) dL_law_16 rfl ?_
  refine wk_istore_n (i := 3) (lo' := [(0, _), (1, _), (2, _), (3, _)]) (q := 18) dL_law_17 rfl rfl (by decide) rfl ?_
  have gX := g4.mono (n' := 203) (sh' := s12) (R' := R12) (by omega) (fun a h1 h2 => hs12 a (by omega)) (fun a i h1 h2 => r12 a i (by omega))
  have hC : CI E.2.2 203 s12 E.2.2 J12 I0 R12 V0 := CI_V0 gX (fun c i h1 h2 h3 h4 h5 => by
    subst e12
    subst e4
    repeat (first | rw [up_o2 (by omega)])
    exact zI0 _ _)
  have hM : MI J12 (E.2.2 + 167) V0 := MI_V0 (fun c c0 c1 => by
    subst e12
    rcases (by omega : c = 0 ∨ c = 1 ∨ c = 2 ∨ c = 3) with rfl | rfl | rfl | rfl
    · rw [up_o2 (by omega), up_o2 (by omega), up_o2 (by omega), up_eq]
    · rw [up_o2 (by omega), up_o2 (by omega), up_eq]
    · rw [up_o2 (by omega), up_eq]
    · rw [up_eq]) (fun c i h1 h2 h3 => by
    subst e12
    subst e4
    repeat (first | rw [up_o2 (by omega)])
    exact zI0 _ _)
  exact lw_loop (Nat.le_of_ble_eq_true rfl) (Nat.le_of_ble_eq_true rfl) hL Ke (N + 1) 0 _ _ _ V0 (by omega) (by omega) (by omega) ⟨hC, hM, g12, by omega⟩
end LAW5
