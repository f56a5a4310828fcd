/-! a row is filled; an evening -/
def fillI (I : qI) (a : Nat) (z v : Int) : qI := fun b i => if b = a ∧ 0 ≤ i ∧ i < z then v else I b i
theorem fillI_0 (I : qI) (a : Nat) (v : Int) : fillI I a 0 v = I := funext fun b => funext fun i => by
  unfold fillI
  rw [if_neg (by omega)]
theorem fillI_s (I : qI) (a k : Nat) (v : Int) : up (fillI I a k v) a k v = fillI I a (k + 1 : Nat) v := funext fun b => funext fun i => by
  simp only [fillI, up]
  split <;> split <;> first | rfl | omega | (split <;> first | rfl | omega)
theorem fillI_ne {I : qI} {a b : Nat} (z v i : Int) (h : b ≠ a) : fillI I a z v b i = I b i := if_neg (fun q => h q.1)
theorem fillI_in {I : qI} {a : Nat} {z v i : Int} (h : 0 ≤ i ∧ i < z) : fillI I a z v a i = v := if_pos ⟨rfl, h⟩
section EVENING
variable {l : Launch} {E : qEv} {n : Nat} {sh : qSh} {I L : qI} {R : qR}
theorem ct_fillI {a z : Nat} {v : Int} (ha : isC E.2.2 n sh a 0 z) :
    Ct l E 0 mJ7_fill_53178 [.ref a, .int (zI v)] (n, sh, I, L, R) 0 0 (qV n sh (fun I' L' R' => I' = fillI I a z v ∧ L' = L ∧ R' = R)) := by
  have hz := ha.2.2.2
  refine Ct.of (lo := [(0, _), (1, _)]) ok_J7_fill_53178 (Nat.le_of_ble_eq_true rfl) rfl ?_
  have loop : ∀ k : Nat, k ≤ z → Wk l E (qmo E 0 n 0 0 (qV n sh (fun I' L' R' => I' = fillI I a z v ∧ L' = L ∧ R' = R))) mJ7_fill_53178 0 0 5
      [(0, .ref a), (1, .int (zI v)), (2, .int (zI (k : Int))), (3, .int (zI (z : Int)))] [] (n, sh, fillI I a k v, L, R) := by
    refine up_ind z ?_ ?_
    · skip
      refine wk_iload_n (i := 2) (q := 6) dJ7_fill_53178_5 rfl rfl rfl ?_
      refine wk_iload_n (i := 3) (q := 7) dJ7_fill_53178_6 rfl rfl rfl ?_
      refine wk_icmp_ge (t := 20) (q := 10) dJ7_fill_53178_7 rfl rfl (by omega) (by omega) (fun hc7 => ?_) (fun hc7 => ?_)
      · refine wk_ret dJ7_fill_53178_20 rfl ⟨Nat.le_refl _, Nat.le_refl _⟩ rfl ?_
        exact ⟨_, _, _, rfl, rfl, rfl, rfl, rfl⟩
      · omega
    · intro k hk ih
      refine wk_iload_n (i := 2) (q := 6) dJ7_fill_53178_5 rfl rfl rfl ?_
      refine wk_iload_n (i := 3) (q := 7) dJ7_fill_53178_6 rfl rfl rfl ?_
      refine wk_icmp_ge (t := 20) (q := 10) dJ7_fill_53178_7 rfl rfl (by omega) (by omega) (fun hc7 => ?_) (fun hc7 => ?_)
      · omega
      · refine wk_aload_n (i := 0) (q := 11) dJ7_fill_53178_10 rfl rfl rfl ?_
        refine wk_iload_n (i := 2) (q := 12) dJ7_fill_53178_11 rfl rfl rfl ?_
        refine wk_iload_n (i := 1) (q := 13) dJ7_fill_53178_12 rfl rfl rfl ?_
        refine wk_iast (q := 14) dJ7_fill_53178_13 rfl ha (by omega) ?_
        rw [fillI_s]
        refine wk_iinc (lo' := [(0, _), (1, _), (2, _), (3, _)]) (q := 17) dJ7_fill_53178_14 rfl rfl (by decide) rfl ?_
        refine wk_goto (t := 5) dJ7_fill_53178_17 rfl ?_
        exact ih
  have l0 := loop 0 (Nat.zero_le _)
  rw [show fillI I a ((0 : Nat) : Int) v = I from fillI_0 I a v] at l0
  refine wk_iconst (q := 1) dJ7_fill_53178_0 rfl ?_
  refine wk_istore_n (i := 2) (lo' := [(0, _), (1, _), (2, _)]) (q := 2) dJ7_fill_53178_1 rfl rfl (by decide) rfl ?_
  refine wk_aload_n (i := 0) (q := 3) dJ7_fill_53178_2 rfl rfl rfl ?_
  refine wk_alen (q := 4) dJ7_fill_53178_3 rfl ha (by decide) ?_
  refine wk_istore_n (i := 3) (lo' := [(0, _), (1, _), (2, _), (3, _)]) (q := 5) dJ7_fill_53178_4 rfl rfl (by decide) rfl ?_
  exact l0
end EVENING
