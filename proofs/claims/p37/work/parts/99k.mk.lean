/-! ROWS: an object is made and its constructor called; blocks stay -/
theorem isC.mono {b n n' : Nat} {sh sh' : qSh} {a kd z : Nat} (h : isC b n sh a kd z) (hn : n ≤ n') (hs : sh' a = sh a) : isC b n' sh' a kd z := ⟨h.1, by have := h.2.1; omega, by rw [hs]; exact h.2.2.1, h.2.2.2⟩
theorem qTold_lt : (∀ p ∈ qTold_c, p.1 < 14) ∧ ∀ p ∈ qTold_r, p.1 < 14 := by decide
theorem qTabS_lt : (∀ p ∈ qTabS_c, p.1 < 38) ∧ ∀ p ∈ qTabS_r, p.1 < 38 := by decide
theorem qEver_lt : (∀ p ∈ qEver_c, p.1 < 3) ∧ ∀ p ∈ qEver_r, p.1 < 3 := by decide
theorem qBest_lt : (∀ p ∈ qBest_c, p.1 < 4) ∧ ∀ p ∈ qBest_r, p.1 < 4 := by decide
theorem qSeat_lt : (∀ p ∈ qSeat_c, p.1 < 5) ∧ ∀ p ∈ qSeat_r, p.1 < 5 := by decide
theorem qSheet_lt : (∀ p ∈ qSheet_c, p.1 < 2) ∧ ∀ p ∈ qSheet_r, p.1 < 2 := by decide
theorem qTold.mono {b n n' : Nat} {sh sh' : qSh} {R R' : qR} {o : Nat} (h : qTold b n sh R o) (hn : n ≤ n') (hs : ∀ a, o ≤ a → a < o + 14 → sh' a = sh a) (hR : ∀ a i, o ≤ a → a < o + 14 → R' a i = R a i) : qTold b n' sh' R' o :=
  ⟨h.1, fun p hp => (h.2.1 p hp).mono hn (hs _ (by omega) (by have := qTold_lt.1 p hp; omega)), fun p hp => by rw [hR _ _ (by omega) (by have := qTold_lt.2 p hp; omega)]; exact h.2.2 p hp⟩
theorem qTab.mono {b n n' : Nat} {sh sh' : qSh} {R R' : qR} {t : Nat} (h : qTab b n sh R t (t + 1)) (hn : n ≤ n') (hs : ∀ a, t ≤ a → a < t + 38 → sh' a = sh a) (hR : ∀ a i, t ≤ a → a < t + 38 → R' a i = R a i) : qTab b n' sh' R' t (t + 1) :=
  ⟨⟨h.1.1, fun p hp => (h.1.2.1 p hp).mono hn (hs _ (by omega) (by have := qTabS_lt.1 p hp; omega)), fun p hp => by rw [hR _ _ (by omega) (by have := qTabS_lt.2 p hp; omega)]; exact h.1.2.2 p hp⟩, ⟨by rw [hR _ _ (by omega) (by omega)]; exact h.2.1.1, h.2.1.2⟩, h.2.2.mono hn (fun a h1 h2 => hs a (by omega) (by omega)) (fun a i h1 h2 => hR a i (by omega) (by omega))⟩
theorem qEver.mono {b n n' : Nat} {sh sh' : qSh} {R R' : qR} {o : Nat} (h : qEver b n sh R o) (hn : n ≤ n') (hs : ∀ a, o ≤ a → a < o + 3 → sh' a = sh a) (hR : ∀ a i, o ≤ a → a < o + 3 → R' a i = R a i) : qEver b n' sh' R' o :=
  ⟨h.1, fun p hp => (h.2.1 p hp).mono hn (hs _ (by omega) (by have := qEver_lt.1 p hp; omega)), fun p hp => by rw [hR _ _ (by omega) (by have := qEver_lt.2 p hp; omega)]; exact h.2.2 p hp⟩
theorem qBest.mono {b n n' : Nat} {sh sh' : qSh} {R R' : qR} {o : Nat} (h : qBest b n sh R o) (hn : n ≤ n') (hs : ∀ a, o ≤ a → a < o + 4 → sh' a = sh a) (hR : ∀ a i, o ≤ a → a < o + 4 → R' a i = R a i) : qBest b n' sh' R' o :=
  ⟨h.1, fun p hp => (h.2.1 p hp).mono hn (hs _ (by omega) (by have := qBest_lt.1 p hp; omega)), fun p hp => by rw [hR _ _ (by omega) (by have := qBest_lt.2 p hp; omega)]; exact h.2.2 p hp⟩
theorem qSeat.mono {b n n' : Nat} {sh sh' : qSh} {R R' : qR} {o : Nat} (h : qSeat b n sh R o) (hn : n ≤ n') (hs : ∀ a, o ≤ a → a < o + 5 → sh' a = sh a) (hR : ∀ a i, o ≤ a → a < o + 5 → R' a i = R a i) : qSeat b n' sh' R' o :=
  ⟨h.1, fun p hp => (h.2.1 p hp).mono hn (hs _ (by omega) (by have := qSeat_lt.1 p hp; omega)), fun p hp => by rw [hR _ _ (by omega) (by have := qSeat_lt.2 p hp; omega)]; exact h.2.2 p hp⟩
theorem qSheet.mono {b n n' : Nat} {sh sh' : qSh} {R R' : qR} {o : Nat} (h : qSheet b n sh R o) (hn : n ≤ n') (hs : ∀ a, o ≤ a → a < o + 2 → sh' a = sh a) (hR : ∀ a i, o ≤ a → a < o + 2 → R' a i = R a i) : qSheet b n' sh' R' o :=
  ⟨h.1, fun p hp => (h.2.1 p hp).mono hn (hs _ (by omega) (by have := qSheet_lt.1 p hp; omega)), fun p hp => by rw [hR _ _ (by omega) (by have := qSheet_lt.2 p hp; omega)]; exact h.2.2 p hp⟩
theorem df_5 : ∀ i, i < qnf 5 → qdf (qty 5 i) = true := by decide +kernel
theorem df_4 : ∀ i, i < qnf 4 → qdf (qty 4 i) = true := by decide +kernel
theorem df_3 : ∀ i, i < qnf 3 → qdf (qty 3 i) = true := by decide +kernel
theorem df_2 : ∀ i, i < qnf 2 → qdf (qty 2 i) = true := by decide +kernel
theorem df_1 : ∀ i, i < qnf 1 → qdf (qty 1 i) = true := by decide +kernel
theorem df_0 : ∀ i, i < qnf 0 → qdf (qty 0 i) = true := by decide +kernel
theorem df_6 : ∀ i, i < qnf 6 → qdf (qty 6 i) = true := by decide +kernel
section MK
variable {l : Launch} {E : qEv} {Y : qMo} {M : qMD} {k j : Nat} {pc q : Nat} {lo : List (Nat × Value)} {st : List Value} {n : Nat} {sh : qSh} {I L : qI} {R : qR}
theorem wk_mk {index i2 ci d mc ms o n' k' j' : Nat} {C : String} {T : u_T} {N : Nat} {host : String} {Mc : qMD} {G : qSh → qI → qR → Prop} (hd : decode M.2.1 pc = .ok (.new index, 3)) (hdup : decode M.2.1 (pc + 3) = .ok (.dup, 1)) (hd2 : decode M.2.1 (pc + 4) = .ok (.invokespecial i2, 3)) (hq : pc + 7 = q)
    (hck : qCok ci C T N) (hcl : Cond.classLink M.1.cls index C ∈ qtb) (hin : Cond.instantiable C N ∈ qtb) (hii : Cond.initialized C ∈ qtb) (hdf : ∀ i, i < qnf ci → qdf (qty ci i) = true) (h0 : qZr (E.2.2 + n) I L R) (hc : k + 1 ≤ Y.1.cells) (hs : j + N ≤ Y.1.slots)
    (hM : qMok Mc) (hl : Cond.methodLinkNest M.1.cls i2 Mc.1 host ∈ qnest ∨ Cond.methodLink M.1.cls i2 Mc.1 ∈ qtb) (hin2 : Cond.instanceMethod Mc.1 ∈ qtb) (hini : Mc.1.name = "<init>") (hret : Mc.2.2.2 = none) (hdesc : (parseMethodDescriptor Mc.1.desc).map (fun d => d.parameters.length) = some 0)
    (hoo : E.2.2 + n = o) (hn' : n + 1 + mc = n') (hk' : k + 1 + mc = k') (hj' : j + N + ms = j')
    (hC : ∀ sh1, isC E.2.2 (n + 1) sh1 o (ci + 4) 0 → (∀ b, b < o → sh1 b = sh b) → Ct l E d Mc [.ref o] (n + 1, sh1, I, L, R) mc ms (fun r S' => r = none ∧ ∃ sh' I' R', S' = (n', sh', I', L, R') ∧ (∀ b, b < o → sh' b = sh1 b) ∧ G sh' I' R')) (hro : qRo Y Mc d (k + 1) (j + N) mc ms) (hw : (st.map fun v => v.category).sum ≤ 7)
    (kk : ∀ sh' I' R', (∀ b, b < o → sh' b = sh b) → G sh' I' R' → Wk l E Y M k' j' q lo (.ref o :: st) (n', sh', I', L, R')) : Wk l E Y M k j pc lo st (n, sh, I, L, R) := by
  subst hq
  subst hoo
  subst hk'
  subst hj'
  refine wk_newO hd rfl hck hcl hin hii hdf h0 hc hs ?_
  refine wk_dup hdup rfl rfl ?_
  have hsh : ∀ b, b < E.2.2 + n → shu sh (E.2.2 + n) (ci + 4, 0) b = sh b := fun b hb => shu_ne (by omega)
  have hCt := hC (shu sh (E.2.2 + n) (ci + 4, 0)) (isC.nw (by decide)) hsh
  have hw8 : ((Value.ref (E.2.2 + n) :: st).map fun v => v.category).sum ≤ 8 := by
    rw [List.map_cons, List.sum_cons]
    have : (Value.ref (E.2.2 + n)).category = 1 := rfl
    omega
  have fin : ∀ (r : Option Value) (S' : qS), (r = none ∧ ∃ sh' I' R', S' = (n', sh', I', L, R') ∧ (∀ b, b < E.2.2 + n → sh' b = shu sh (E.2.2 + n) (ci + 4, 0) b) ∧ G sh' I' R') → Wk l E Y M (k + 1 + mc) (j + N + ms) (pc + 3 + 1 + 3) lo (qpush r (.ref (E.2.2 + n) :: st)) S' := by
    rintro r S' ⟨rfl, sh', I', R', rfl, h1, h2⟩
    exact kk sh' I' R' (fun b hb => (h1 b hb).trans (hsh b hb)) h2
  rcases hl with hl | hl
  · exact wk_inN (S := (n + 1, shu sh (E.2.2 + n) (ci + 4, 0), I, L, R)) hd2 rfl hM hl hin2 hini hret hdesc hCt hro hw8 (fun r S' hF _ => fin r S' hF)
  · exact wk_inI (S := (n + 1, shu sh (E.2.2 + n) (ci + 4, 0), I, L, R)) hd2 rfl hM hl hin2 hini hret hdesc hCt hro hw8 (fun r S' hF _ => fin r S' hF)
end MK
