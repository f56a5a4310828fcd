/-! THE LAW: how its walk stands; the script is read; both sides kept -/
abbrev mL : qMD := (yL_law, cL_law, 4, some .boolean)
def sc (xs : Nat → Int32) (i : Int) : Int := (xs i.toNat).toInt
theorem sc_in {xs : Nat → Int32} (i : Int) : in32 (sc xs i) := zI_in _
def lwY (E : qEv) (Q : List Frame → Array Value → State → State → Prop) (b N : Nat) (xs : Nat → Int32) : qMo := (room_1, Q, fun s => va_X b N xs s s.heap ∧ b < E.2.2 ∧ E.2.2 = s.heap.size)
section LAW1
variable {l : Launch} {E : qEv} {Q : List Frame → Array Value → State → State → Prop} {b N : Nat} {xs : Nat → Int32} {M : qMD} {k j : Nat} {pc q : Nat} {lo : List (Nat × Value)} {st : List Value} {S : qS}
theorem wk_sld {i : Int} (hd : decode M.2.1 pc = .ok (.iaload, 1)) (hq : pc + 1 = q) (hi : 0 ≤ i ∧ i < (N : Int)) (hL : N ≤ 3072) (h : Wk l E (lwY E Q b N xs) M k j q lo (.int (zI (sc xs i)) :: st) S) : Wk l E (lwY E Q b N xs) M k j pc lo (.int (zI i) :: .ref b :: st) S := by
  subst hq
  intro p e s m args below meth c H locs ls hB hH hl
  obtain ⟨hX, hb1, hb2⟩ := hB.2.2.2.2.2.2.2.2.2.2
  refine va_sld (A := qA E) hB.1 hB.2.1 hX (by omega) (by show ¬ (E.2.2 ≤ b); omega) hH.2.2 (zI_vp hi (by omega)) hd ?_
  have e1 := zI_cl (e := i) hi.1 (by omega)
  have e2 : (zI i).toNatClampNeg = i.toNat := by omega
  rw [e2, ← zI_of (xs i.toNat)]
  exact h p e s m args below meth c H locs ls hB hH hl
theorem wk_slen (hd : decode M.2.1 pc = .ok (.arraylength, 1)) (hq : pc + 1 = q) (h : Wk l E (lwY E Q b N xs) M k j q lo (.int (zI N) :: st) S) : Wk l E (lwY E Q b N xs) M k j pc lo (.ref b :: st) S := by
  subst hq
  intro p e s m args below meth c H locs ls hB hH hl
  obtain ⟨hX, hb1, hb2⟩ := hB.2.2.2.2.2.2.2.2.2.2
  exact va_slen (A := qA E) hB.1 hB.2.1 hX (by omega) (by show ¬ (E.2.2 ≤ b); omega) hH.2.2 hd (h p e s m args below meth c H locs ls hB hH hl)
theorem wk_icmp_same {Y : qMo} {a : Int} {off : Int} {t : Nat} (hd : decode M.2.1 pc = .ok (.if_icmp .eq off, 3)) (ht : (pc : Int) + off = (t : Int)) (h : Wk l E Y M k j t lo st S) : Wk l E Y M k j pc lo (.int (zI a) :: .int (zI a) :: st) S := by
  intro p e s m args below meth c H locs ls hB hH hl
  exact lv_icmp_eq hB.1 hB.2.1 hd ht (fun _ => h p e s m args below meth c H locs ls hB hH hl) (fun z => absurd rfl z)
theorem wk_lcmp_same {Y : qMo} {a : Int} (hd : decode M.2.1 pc = .ok (.lcmp, 1)) (hq : pc + 1 = q) (h : Wk l E Y M k j q lo (.int (zI 0) :: st) S) : Wk l E Y M k j pc lo (.long (zL a) :: .long (zL a) :: st) S := by
  subst hq
  intro p e s m args below meth c H locs ls hB hH hl
  refine W.lcmp hB.1 hB.2.1 hd ?_
  rw [show lg_cmp (zL a) (zL a) = zI 0 by simp [lg_cmp]; rfl]
  exact h p e s m args below meth c H locs ls hB hH hl
end LAW1
theorem CI.frm {b n : Nat} {sh : qSh} {x : Nat} {I L I' : qI} {R : qR} {V : VV} (h : CI b n sh x I L R V) (hI : ∀ c i, x ≤ c → c < x + 167 → I' c i = I c i) : CI b n sh x I' L R V := by
  obtain ⟨o, d, u1, u2, u3, h⟩ := h
  have hT2 := h.2.2.2.2.2.2.2.1.2
  have hng := h.2.2.1.ng
  refine ⟨o, d, u1, u2, u3, h.gen h.1 rfl h.2.2.1 (fun c i q1 q2 => hI c i (by omega) (by omega)) (by rw [hI _ _ (by omega) (by omega)]; exact h.2.2.2.1) (by rw [hI _ _ (by omega) (by omega)]; exact h.2.2.2.2.1) (by rw [hI _ _ (by omega) (by omega)]; exact h.2.2.2.2.2.1) (h.2.2.2.2.2.2.1.cg ⟨rfl, rfl, rfl, rfl⟩ (fun c i q1 q2 => hI c i (by omega) (by omega))) (fun q => ?_) (fun q => ?_) ?_ ?_⟩
  · rcases hT2 with z | z
    · rw [hI _ _ (by omega) (by omega), hI _ _ (by omega) (by omega)]
      exact z.2
    · omega
  · rcases hT2 with z | ⟨z1, z2, z3, z4, z5⟩
    · omega
    · exact ⟨z3.cg hng.2.1 (fun c i q => hI c i (by omega) (by omega)), by rw [hI _ _ (by omega) (by omega)]; exact z4, fun g g0 g1 => by rw [hI _ _ (by omega) (by omega)]; exact z5 g g0 g1⟩
  · have hB := h.2.2.2.2.2.2.2.2.1
    unfold caB at hB ⊢
    rw [hI _ _ (by omega) (by omega)]
    exact hB
  · have hC := h.2.2.2.2.2.2.2.2.2
    unfold caS at hC ⊢
    rw [hI _ _ (by omega) (by omega)]
    rcases hC with z | ⟨z1, z2, z3⟩
    · exact Or.inl z
    · exact Or.inr ⟨z1, z2, fun aim a0 a1 => ⟨by rw [hI _ _ (by omega) (by omega)]; exact (z3 aim a0 a1).1, fun s s0 s1 => by rw [hI _ _ (by omega) (by omega)]; exact (z3 aim a0 a1).2 s s0 s1⟩⟩
/-- both show V -/
def LI (E : qEv) (n : Nat) (sh : qSh) (x m : Nat) (I L : qI) (R : qR) (V : VV) : Prop := CI E.2.2 n sh x I L R V ∧ MI I m V ∧ qMod E.2.2 n sh R m ∧ x + 167 ≤ m
section LAW2
variable {E : qEv} {n : Nat} {sh : qSh} {x m : Nat} {I L : qI} {R : qR} {V : VV}
theorem LI.ob (h : LI E n sh x m I L R V) : isC E.2.2 n sh x 10 0 := by
  obtain ⟨o, d, u1, u2, u3, h0⟩ := h.1
  exact h0.1.ob
theorem qMod.frm {R' : qR} (h : qMod E.2.2 n sh R m) (hx : x + 167 ≤ m) (hR : frO R R' x 167) : qMod E.2.2 n sh R' m :=
  ⟨h.1, h.2.1, fun p hp => (hR _ _ (Or.inr (by omega))).trans (h.2.2 p hp)⟩
theorem MI.frm {I' : qI} (h : MI I m V) (hx : x + 167 ≤ m) (hI : frO I I' x 167) : MI I' m V :=
  h.sc (fun c i z => hI c i (Or.inr (by omega)))
/-- behind the class's call and the reference's -/
theorem LI.step {I1 L1 I2 L2 : qI} {R1 R2 : qR} {V' : VV} (h : LI E n sh x m I L R V) (hC : CI E.2.2 n sh x I1 L1 R1 V') (hR : frO R R1 x 167) (hM : MI I2 m V') (fI : frO I1 I2 m 36) (hL2 : L2 = L1) (hR2 : R2 = R1) : LI E n sh x m I2 L2 R2 V' := by
  subst hL2
  subst hR2
  have hx := h.2.2.2
  exact ⟨hC.frm (fun c i q1 q2 => fI c i (Or.inl (by omega))), hM, h.2.2.1.frm hx hR, hx⟩
end LAW2
