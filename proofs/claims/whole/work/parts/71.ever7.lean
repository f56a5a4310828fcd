/-! the reference's rings: sameAs -/
section EVER7
variable {l : Launch} {E : qEv} {n : Nat} {sh : qSh} {I L : qI} {R : qR}
theorem ct_X7_sameAs {m : Nat} {T : TT} {C : CC} {la : Int → Int} {e : Nat} (hM : qMod E.2.2 n sh R m) (hT : T.ok) (hLA : LA2 T la) (hg : I m 5 = T.ng) (he : e ≤ 200) (hm : ∀ j : Nat, j ≤ e → ∀ g, 0 ≤ g → g < T.ng → I (m + 31) (7 * (j : Int) + g) = seqM T C la j g) :
    Ct l E 1 mX7_sameAs [.ref m, .int (zI (e : Int))] (n, sh, I, L, R) 0 0 (qP n sh I L R (fun v => v = if firstK (memE T C la) e e = -1 then -9 else firstK (memE T C la) e e)) := by
  have hn := hT.2.1
  have hn1 := hT.1
  have nd6 := hT.2.2.2.1
  have sq := seqM_la2 hT (C := C) hLA
  have sqb : ∀ j : Nat, j ≤ e → ∀ g : Int, 0 ≤ g → g < T.ng → I (m + 31) (7 * (j : Int) + g) = seqM T C la j g ∧ -9 ≤ seqM T C la j g ∧ seqM T C la j g < 6 ∧ (seqM T C la j g < 0 → seqM T C la j g ≤ -8) := fun j hj g g0 g1 => by
    have := sq j g g0 g1
    exact ⟨hm j hj g g0 g1, by omega, by omega, by omega⟩
  have loop : ∀ k : Nat, k ≤ e → (∀ j : Nat, j < k → memE T C la j ≠ memE T C la e) → Wk l E (qmo E 1 n 0 0 (qP n sh I L R (fun v => v = if firstK (memE T C la) e e = -1 then -9 else firstK (memE T C la) e e))) mX7_sameAs 0 0 2
      [(0, .ref m), (1, .int (zI (e : Int))), (2, .int (zI (k : Int)))] [] (n, sh, I, L, R) := by
    refine up_ind e ?_ ?_
    · intro hs
      have hf : firstK (memE T C la) e e = -1 := by
        rcases firstK_in (mem := memE T C la) (e := e) e with ⟨a, -⟩ | ⟨j, j1, -, j3, -⟩
        · exact a
        · exact absurd j3 (hs j j1)
      refine wk_iload_n (i := 2) (q := 3) dX7_sameAs_2 rfl rfl rfl ?_
      refine wk_iload_n (i := 1) (q := 4) dX7_sameAs_3 rfl rfl rfl ?_
      refine wk_icmp_ge (t := 24) (q := 7) dX7_sameAs_4 rfl rfl (by omega) (by omega) (fun hc4 => ?_) (fun hc4 => ?_)
      · refine wk_bipush (q := 26) dX7_sameAs_24 rfl (by decide +kernel) ?_
        refine wk_iret dX7_sameAs_26 rfl ⟨Nat.le_refl _, Nat.le_refl _⟩ rfl ?_
        refine ⟨_, _, _, _, rfl, rfl, rfl, rfl, rfl, ?_⟩
        rw [if_pos hf]
      · omega
    · intro k hk ih hs
      have hit : memE T C la k = memE T C la e → firstK (memE T C la) e e = k := fun q => by
        rcases firstK_in (mem := memE T C la) (e := e) e with ⟨-, b⟩ | ⟨j, j1, j2, j3, j4⟩
        · exact absurd q (b k hk)
        · have : j = k := by
            by_cases z : j < k
            · exact absurd j3 (hs j z)
            · by_cases z2 : k < j
              · exact absurd q (j4 k z2)
              · omega
          rw [← this]
          exact j2
      refine wk_iload_n (i := 2) (q := 3) dX7_sameAs_2 rfl rfl rfl ?_
      refine wk_iload_n (i := 1) (q := 4) dX7_sameAs_3 rfl rfl rfl ?_
      refine wk_icmp_ge (t := 24) (q := 7) dX7_sameAs_4 rfl rfl (by omega) (by omega) (fun hc4 => ?_) (fun hc4 => ?_)
      · omega
      · refine wk_aload_n (i := 0) (q := 8) dX7_sameAs_7 rfl rfl rfl ?_
        refine wk_iload_n (i := 2) (q := 9) dX7_sameAs_8 rfl rfl rfl ?_
        refine wk_iload_n (i := 1) (q := 10) dX7_sameAs_9 rfl rfl rfl ?_
        refine wk_cP2 (q := 13) dX7_sameAs_10 rfl vl_X7_275 ⟨_, _, rfl⟩ hM.ob (ct_X7_areAlike hM hg (by omega) (by omega) (by omega) (sqb k (by omega)) (sqb e (Nat.le_refl _))) (qRo_m ok_X7_areAlike (by decide) (Nat.le_refl _) (Nat.le_refl _)) (Nat.le_of_ble_eq_true rfl) (fun v10 hv10 => ?_)
        rcases hv10 with ⟨rfl, hv10⟩ | ⟨rfl, hv10⟩
        · refine wk_if_eq (t := 18) (q := 16) dX7_sameAs_13 rfl rfl (by omega) (fun hq => absurd hq (by decide)) (fun _ => ?_)
          refine wk_iload_n (i := 2) (q := 17) dX7_sameAs_16 rfl rfl rfl ?_
          refine wk_iret dX7_sameAs_17 rfl ⟨Nat.le_refl _, Nat.le_refl _⟩ rfl ?_
          refine ⟨_, _, _, _, rfl, rfl, rfl, rfl, rfl, ?_⟩
          have h1 := hit hv10
          rw [h1, if_neg (by omega)]
        · refine wk_if_eq (t := 18) (q := 16) dX7_sameAs_13 rfl rfl (by omega) (fun _ => ?_) (fun hq => absurd hq (by decide))
          refine wk_iinc (lo' := [(0, _), (1, _), (2, _)]) (q := 21) dX7_sameAs_18 rfl rfl (by decide) rfl ?_
          refine wk_goto (t := 2) dX7_sameAs_21 rfl ?_
          refine ih (fun j hj => ?_)
          by_cases hq : j = k
          · rw [hq]
            exact hv10
          · exact hs j (by omega)
  refine Ct.of (lo := [(0, _), (1, _)]) ok_X7_sameAs (Nat.le_of_ble_eq_true rfl) rfl ?_
  have l0 := loop 0 (Nat.zero_le _) (fun j hj => by omega)
  refine wk_iconst (q := 1) dX7_sameAs_0 rfl ?_
  refine wk_istore_n (i := 2) (lo' := [(0, _), (1, _), (2, _)]) (q := 2) dX7_sameAs_1 rfl rfl (by decide) rfl ?_
  exact l0
end EVER7
