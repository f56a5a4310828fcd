/-! THE LAW: its loop -/
section LAW4
variable {l : Launch} {E : qEv} {Q : List Frame → Array Value → State → State → Prop} {b N : Nat} {xs : Nat → Int32} {k j : Nat} {n : Nat} {sh : qSh} {x m : Nat}
/-- one turn's switch -/
theorem lw_sw {I L : qI} {R : qR} {V : VV} {i w : Int} (hw : in32 w) (hk : k ≤ 600000) (hj : j ≤ 7302250) (hL : N ≤ 3072) (h0 : 0 ≤ i) (h1 : i + 6 ≤ N) (h : LI E n sh x m I L R V) (K : ∀ I' L' R' V', LI E n sh x m I' L' R' V' → Wk l E (lwY E Q b N xs) mL k j 1262 [(0, .ref b), (1, .ref x), (2, .ref m), (3, .int (zI i))] [] (n, sh, I', L', R')) : Wk l E (lwY E Q b N xs) mL k j 33 [(0, .ref b), (1, .ref x), (2, .ref m), (3, .int (zI i))] [.int (zI w)] (n, sh, I, L, R) := by
  by_cases hc : 0 ≤ w ∧ w ≤ 33
  · rcases (by omega : w = 0 ∨ w = 1 ∨ w = 2 ∨ w = 3 ∨ w = 4 ∨ w = 5 ∨ w = 6 ∨ w = 7 ∨ w = 8 ∨ w = 9 ∨ w = 10 ∨ w = 11 ∨ w = 12 ∨ w = 13 ∨ w = 14 ∨ w = 15 ∨ w = 16 ∨ w = 17 ∨ w = 18 ∨ w = 19 ∨ w = 20 ∨ w = 21 ∨ w = 22 ∨ w = 23 ∨ w = 24 ∨ w = 25 ∨ w = 26 ∨ w = 27 ∨ w = 28 ∨ w = 29 ∨ w = 30 ∨ w = 31 ∨ w = 32 ∨ w = 33) with e | e | e | e | e | e | e | e | e | e | e | e | e | e | e | e | e | e | e | e | e | e | e | e | e | e | e | e | e | e | e | e | e | e
    · exact wk_tsIn (off := 151) (t := 184) dL_law_33 hw (by omega) (by omega) (by rw [e]; rfl) rfl (lc_0 hk hj hL h0 h1 h K)
    · exact wk_tsIn (off := 204) (t := 237) dL_law_33 hw (by omega) (by omega) (by rw [e]; rfl) rfl (lc_1 hk hj hL h0 h1 h K)
    · exact wk_tsIn (off := 237) (t := 270) dL_law_33 hw (by omega) (by omega) (by rw [e]; rfl) rfl (lc_2 hk hj hL h0 h1 h K)
    · exact wk_tsIn (off := 270) (t := 303) dL_law_33 hw (by omega) (by omega) (by rw [e]; rfl) rfl (lc_3 hk hj hL h0 h1 h K)
    · exact wk_tsIn (off := 329) (t := 362) dL_law_33 hw (by omega) (by omega) (by rw [e]; rfl) rfl (lc_4 hk hj hL h0 h1 h K)
    · exact wk_tsIn (off := 372) (t := 405) dL_law_33 hw (by omega) (by omega) (by rw [e]; rfl) rfl (lc_5 hk hj hL h0 h1 h K)
    · exact wk_tsIn (off := 405) (t := 438) dL_law_33 hw (by omega) (by omega) (by rw [e]; rfl) rfl (lc_6 hk hj hL h0 h1 h K)
    · exact wk_tsIn (off := 428) (t := 461) dL_law_33 hw (by omega) (by omega) (by rw [e]; rfl) rfl (lc_7 hk hj hL h0 h1 h K)
    · exact wk_tsIn (off := 451) (t := 484) dL_law_33 hw (by omega) (by omega) (by rw [e]; rfl) rfl (lc_8 hk hj hL h0 h1 h K)
    · exact wk_tsIn (off := 464) (t := 497) dL_law_33 hw (by omega) (by omega) (by rw [e]; rfl) rfl (lc_9 hk hj hL h0 h1 h K)
    · exact wk_tsIn (off := 477) (t := 510) dL_law_33 hw (by omega) (by omega) (by rw [e]; rfl) rfl (lc_10 hk hj hL h0 h1 h K)
    · exact wk_tsIn (off := 510) (t := 543) dL_law_33 hw (by omega) (by omega) (by rw [e]; rfl) rfl (lc_11 hk hj hL h0 h1 h K)
    · exact wk_tsIn (off := 533) (t := 566) dL_law_33 hw (by omega) (by omega) (by rw [e]; rfl) rfl (lc_12 hk hj hL h0 h1 h K)
    · exact wk_tsIn (off := 593) (t := 626) dL_law_33 hw (by omega) (by omega) (by rw [e]; rfl) rfl (lc_13 hk hj hL h0 h1 h K)
    · exact wk_tsIn (off := 646) (t := 679) dL_law_33 hw (by omega) (by omega) (by rw [e]; rfl) rfl (lc_14 hk hj hL h0 h1 h K)
    · exact wk_tsIn (off := 669) (t := 702) dL_law_33 hw (by omega) (by omega) (by rw [e]; rfl) rfl (lc_15 hk hj hL h0 h1 h K)
    · exact wk_tsIn (off := 702) (t := 735) dL_law_33 hw (by omega) (by omega) (by rw [e]; rfl) rfl (lc_16 hk hj hL h0 h1 h K)
    · exact wk_tsIn (off := 725) (t := 758) dL_law_33 hw (by omega) (by omega) (by rw [e]; rfl) rfl (lc_17 hk hj hL h0 h1 h K)
    · exact wk_tsIn (off := 759) (t := 792) dL_law_33 hw (by omega) (by omega) (by rw [e]; rfl) rfl (lc_18 hk hj hL h0 h1 h K)
    · exact wk_tsIn (off := 772) (t := 805) dL_law_33 hw (by omega) (by omega) (by rw [e]; rfl) rfl (lc_19 hk hj hL h0 h1 h K)
    · exact wk_tsIn (off := 805) (t := 838) dL_law_33 hw (by omega) (by omega) (by rw [e]; rfl) rfl (lc_20 hk hj hL h0 h1 h K)
    · exact wk_tsIn (off := 838) (t := 871) dL_law_33 hw (by omega) (by omega) (by rw [e]; rfl) rfl (lc_21 hk hj hL h0 h1 h K)
    · exact wk_tsIn (off := 862) (t := 895) dL_law_33 hw (by omega) (by omega) (by rw [e]; rfl) rfl (lc_22 hk hj hL h0 h1 h K)
    · exact wk_tsIn (off := 885) (t := 918) dL_law_33 hw (by omega) (by omega) (by rw [e]; rfl) rfl (lc_23 hk hj hL h0 h1 h K)
    · exact wk_tsIn (off := 928) (t := 961) dL_law_33 hw (by omega) (by omega) (by rw [e]; rfl) rfl (lc_24 hk hj hL h0 h1 h K)
    · exact wk_tsIn (off := 951) (t := 984) dL_law_33 hw (by omega) (by omega) (by rw [e]; rfl) rfl (lc_25 hk hj hL h0 h1 h K)
    · exact wk_tsIn (off := 994) (t := 1027) dL_law_33 hw (by omega) (by omega) (by rw [e]; rfl) rfl (lc_26 hk hj hL h0 h1 h K)
    · exact wk_tsIn (off := 1038) (t := 1071) dL_law_33 hw (by omega) (by omega) (by rw [e]; rfl) rfl (lc_27 hk hj hL h0 h1 h K)
    · exact wk_tsIn (off := 1101) (t := 1134) dL_law_33 hw (by omega) (by omega) (by rw [e]; rfl) rfl (lc_28 hk hj hL h0 h1 h K)
    · exact wk_tsIn (off := 1124) (t := 1157) dL_law_33 hw (by omega) (by omega) (by rw [e]; rfl) rfl (lc_29 hk hj hL h0 h1 h K)
    · exact wk_tsIn (off := 1147) (t := 1180) dL_law_33 hw (by omega) (by omega) (by rw [e]; rfl) rfl (lc_30 hk hj hL h0 h1 h K)
    · exact wk_tsIn (off := 1180) (t := 1213) dL_law_33 hw (by omega) (by omega) (by rw [e]; rfl) rfl (lc_31 hk hj hL h0 h1 h K)
    · exact wk_tsIn (off := 1193) (t := 1226) dL_law_33 hw (by omega) (by omega) (by rw [e]; rfl) rfl (lc_32 hk hj hL h0 h1 h K)
    · exact wk_tsIn (off := 1206) (t := 1239) dL_law_33 hw (by omega) (by omega) (by rw [e]; rfl) rfl (lc_33 hk hj hL h0 h1 h K)
  · exact wk_tsOut (t := 1262) dL_law_33 hw (by omega) rfl (K _ _ _ _ h)
theorem lw_loop (hk : k ≤ 600000) (hj : j ≤ 7302250) (hL : N ≤ 3072) (Ke : ∀ (lo : List (Nat × Value)) (S' : qS), Wk l E (lwY E Q b N xs) mL k j 1269 lo [.int (zI 1)] S') : ∀ (f : Nat) (i : Int) (I L : qI) (R : qR) (V : VV), 0 ≤ i → i ≤ N → (N : Int) - i < f → LI E n sh x m I L R V → Wk l E (lwY E Q b N xs) mL k j 18 [(0, .ref b), (1, .ref x), (2, .ref m), (3, .int (zI i))] [] (n, sh, I, L, R) := by
  intro f
  induction f with
  | zero =>
    intro i I L R V h0 h1 h2
    omega
  | succ f ih =>
    intro i I L R V h0 h1 h2 h
    refine wk_iload_n (i := 3) (q := 19) dL_law_18 rfl rfl rfl ?_
    refine wk_aload_n (i := 0) (q := 20) dL_law_19 rfl rfl rfl ?_
    refine wk_slen (q := 21) dL_law_20 rfl ?_
    refine wk_bipush (q := 23) dL_law_21 rfl (by decide +kernel) ?_
    refine wk_isub (q := 24) dL_law_23 rfl ?_
    refine wk_icmp_gt (t := 1268) (q := 27) dL_law_24 rfl rfl (by omega) (by omega) (fun _ => ?_) (fun hc => ?_)
    · refine wk_iconst (q := 1269) dL_law_1268 rfl ?_
      exact Ke _ _
    · refine wk_aload_n (i := 0) (q := 28) dL_law_27 rfl rfl rfl ?_
      refine wk_iload_n (i := 3) (q := 29) dL_law_28 rfl rfl rfl ?_
      refine wk_sld (q := 30) dL_law_29 rfl (by omega) hL ?_
      refine wk_bipush (q := 32) dL_law_30 rfl (by decide +kernel) ?_
      refine wk_iand (q := 33) dL_law_32 rfl ?_
      refine lw_sw (zI_in _) hk hj hL h0 (by omega) h (fun I' L' R' V' h' => ?_)
      refine wk_iinc (lo' := [(0, _), (1, _), (2, _), (3, _)]) (q := 1265) dL_law_1262 rfl rfl (by decide) rfl ?_
      refine wk_goto (t := 18) dL_law_1265 rfl ?_
      exact ih (i + 6) I' L' R' V' (by omega) (by omega) (by omega) h'
end LAW4
