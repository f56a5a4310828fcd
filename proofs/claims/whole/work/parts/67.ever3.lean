/-! the class's Ever: placeBefore, findRing -/
section EVER3
variable {l : Launch} {E : qEv} {n : Nat} {sh : qSh} {I L : qI} {R : qR}
theorem ct_X1_placeBefore {y : Nat} {mem : Nat → Int} {e : Nat} (hY : qEver E.2.2 n sh R y) (he : e ≤ 200) (hm : ∀ j : Nat, j ≤ e → I (y + 2) j = mem j ∧ in32 (mem j)) :
    Ct l E 0 mX1_placeBefore [.ref y, .int (zI (e : Int))] (n, sh, I, L, R) 0 0 (qP n sh I L R (fun v => v = if firstK mem e e = -1 then (e : Int) else firstK mem e e)) := by
  have loop : ∀ k : Nat, k ≤ e → (∀ j : Nat, j < k → mem j ≠ mem e) → Wk l E (qmo E 0 n 0 0 (qP n sh I L R (fun v => v = if firstK mem e e = -1 then (e : Int) else firstK mem e e))) mX1_placeBefore 0 0 2
      [(0, .ref y), (1, .int (zI (e : Int))), (2, .int (zI (k : Int)))] [] (n, sh, I, L, R) := by
    refine up_ind e ?_ ?_
    · intro hs
      have hf : firstK mem e e = -1 := by
        rcases firstK_in (mem := mem) (e := e) e with ⟨a, -⟩ | ⟨j, j1, -, j3, -⟩
        · exact a
        · exact absurd j3 (hs j j1)
      refine wk_iload_n (i := 2) (q := 3) dX1_placeBefore_2 rfl rfl rfl ?_
      refine wk_iload_n (i := 1) (q := 4) dX1_placeBefore_3 rfl rfl rfl ?_
      refine wk_icmp_ge (t := 28) (q := 7) dX1_placeBefore_4 rfl rfl (by omega) (by omega) (fun hc4 => ?_) (fun hc4 => ?_)
      · refine wk_iload_n (i := 2) (q := 29) dX1_placeBefore_28 rfl rfl rfl ?_
        refine wk_iret dX1_placeBefore_29 rfl ⟨Nat.le_refl _, Nat.le_refl _⟩ rfl ?_
        refine ⟨_, _, _, _, rfl, rfl, rfl, rfl, rfl, ?_⟩
        rw [if_pos hf]
      · omega
    · intro k hk ih hs
      have m1 := hm k (by omega)
      have m2 := hm e (Nat.le_refl _)
      have hit : mem k = mem e → firstK mem e e = k := fun q => by
        rcases firstK_in (mem := mem) (e := e) e with ⟨-, b⟩ | ⟨j, j1, j2, j3, j4⟩
        · exact absurd q (b k hk)
        · have : j = k := by
            by_cases z : j < k
            · exact absurd j3 (hs j z)
            · by_cases z2 : k < j
              · exact absurd q (j4 k z2)
              · omega
          rw [← this]
          exact j2
      refine wk_iload_n (i := 2) (q := 3) dX1_placeBefore_2 rfl rfl rfl ?_
      refine wk_iload_n (i := 1) (q := 4) dX1_placeBefore_3 rfl rfl rfl ?_
      refine wk_icmp_ge (t := 28) (q := 7) dX1_placeBefore_4 rfl rfl (by omega) (by omega) (fun hc4 => ?_) (fun hc4 => ?_)
      · refine wk_iload_n (i := 2) (q := 29) dX1_placeBefore_28 rfl rfl rfl ?_
        refine wk_iret dX1_placeBefore_29 rfl ⟨Nat.le_refl _, Nat.le_refl _⟩ rfl ?_
        refine ⟨_, _, _, _, rfl, rfl, rfl, rfl, rfl, ?_⟩
        first
        | (exfalso; omega)
        | (have h1 := hit hc19
           rw [h1, if_neg (by omega)])
      · refine wk_aload_n (i := 0) (q := 8) dX1_placeBefore_7 rfl rfl rfl ?_
        refine wk_getR (fi := 1) (q := 11) dX1_placeBefore_8 rfl fl_X1_15 rfl rfl hY.ob hY.r1 ?_
        refine wk_iload_n (i := 2) (q := 12) dX1_placeBefore_11 rfl rfl rfl ?_
        refine wk_iald (q := 13) dX1_placeBefore_12 rfl hY.s1 (by omega) ?_
        refine wk_aload_n (i := 0) (q := 14) dX1_placeBefore_13 rfl rfl rfl ?_
        refine wk_getR (fi := 1) (q := 17) dX1_placeBefore_14 rfl fl_X1_15 rfl rfl hY.ob hY.r1 ?_
        refine wk_iload_n (i := 1) (q := 18) dX1_placeBefore_17 rfl rfl rfl ?_
        refine wk_iald (q := 19) dX1_placeBefore_18 rfl hY.s1 (by omega) ?_
        rw [m1.1, m2.1]
        refine wk_icmp_eq (t := 28) (q := 22) dX1_placeBefore_19 rfl rfl (by omega) (by omega) (fun hc19 => ?_) (fun hc19 => ?_)
        · refine wk_iload_n (i := 2) (q := 29) dX1_placeBefore_28 rfl rfl rfl ?_
          refine wk_iret dX1_placeBefore_29 rfl ⟨Nat.le_refl _, Nat.le_refl _⟩ rfl ?_
          refine ⟨_, _, _, _, rfl, rfl, rfl, rfl, rfl, ?_⟩
          first
          | (exfalso; omega)
          | (have h1 := hit hc19
             rw [h1, if_neg (by omega)])
        · refine wk_iinc (lo' := [(0, _), (1, _), (2, _)]) (q := 25) dX1_placeBefore_22 rfl rfl (by decide) rfl ?_
          refine wk_goto (t := 2) dX1_placeBefore_25 rfl ?_
          refine ih (fun j hj => ?_)
          by_cases hq : j = k
          · rw [hq]
            exact hc19
          · exact hs j (by omega)
  refine Ct.of (lo := [(0, _), (1, _)]) ok_X1_placeBefore (Nat.le_of_ble_eq_true rfl) rfl ?_
  have l0 := loop 0 (Nat.zero_le _) (fun j hj => by omega)
  refine wk_iconst (q := 1) dX1_placeBefore_0 rfl ?_
  refine wk_istore_n (i := 2) (lo' := [(0, _), (1, _), (2, _)]) (q := 2) dX1_placeBefore_1 rfl rfl (by decide) rfl ?_
  exact l0
/-- what a walk of evenings writes -/
def frE (I I' : qI) (t y : Nat) : Prop := ∀ b i, ¬ (t ≤ b ∧ b < t + 38) → ¬ (y ≤ b ∧ b < y + 3) → I' b i = I b i
def Er (T : TT) (C : CC) (la : Int → Int) : Nat := (ringE (memE T C la) 200).toNat
def tailE (T : TT) (C : CC) (la : Int → Int) : Int := firstK (memE T C la) (Er T C la) (Er T C la)
def frP (I I' : qI) (t y : Nat) (T : TT) (C : CC) (la : Int → Int) : Prop := frE I I' t y ∧ shC I' t T C ∧ I' t 8 = -1 ∧ (∀ g, 0 ≤ g → g < T.ng → I' (t + 17) g = seqM T C la (Er T C la) g) ∧ I' y 2 = tailE T C la ∧ I' y 3 = (Er T C la : Int) - tailE T C la
end EVER3
