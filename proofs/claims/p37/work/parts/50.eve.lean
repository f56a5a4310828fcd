/-! sums over seats; shares; what an evening keeps -/
theorem sumI_congr {f g : Int → Int} : ∀ k : Nat, (∀ i : Int, 0 ≤ i → i < k → f i = g i) → sumI f k = sumI g k
  | 0, _ => rfl
  | k + 1, h => by
    show sumI f k + f k = sumI g k + g k
    rw [sumI_congr k (fun i h0 h1 => h i h0 (by omega)), h k (by omega) (by omega)]
def gcdI (a b : Int) : Int := (Nat.gcd a.toNat b.toNat : Nat)
theorem gcdI_bd {a b : Int} (hb : 1 ≤ b) : 1 ≤ gcdI a b ∧ gcdI a b ≤ b := by
  have h1 : 0 < Nat.gcd a.toNat b.toNat := Nat.gcd_pos_of_pos_right _ (by omega)
  have h2 : Nat.gcd a.toNat b.toNat ≤ b.toNat := Nat.gcd_le_right _ (by omega)
  unfold gcdI
  omega
theorem gcdI_dvd {a b : Int} (ha : 0 ≤ a) (hb : 1 ≤ b) : a % gcdI a b = 0 ∧ b % gcdI a b = 0 := by
  have h1 : ((Nat.gcd a.toNat b.toNat : Nat) : Int) ∣ ((a.toNat : Nat) : Int) := Int.natCast_dvd_natCast.mpr (Nat.gcd_dvd_left _ _)
  have h2 : ((Nat.gcd a.toNat b.toNat : Nat) : Int) ∣ ((b.toNat : Nat) : Int) := Int.natCast_dvd_natCast.mpr (Nat.gcd_dvd_right _ _)
  rw [show ((a.toNat : Nat) : Int) = a by omega] at h1
  rw [show ((b.toNat : Nat) : Int) = b by omega] at h2
  exact ⟨Int.emod_eq_zero_of_dvd h1, Int.emod_eq_zero_of_dvd h2⟩
theorem gcdI_most {a b k : Int} (ha : 0 ≤ a) (hb : 1 ≤ b) (hk : 1 ≤ k) (h1 : a % k = 0) (h2 : b % k = 0) : k ≤ gcdI a b := by
  have d1 : k.toNat ∣ a.toNat := Int.natCast_dvd_natCast.mp (by rw [show ((k.toNat : Nat) : Int) = k by omega, show ((a.toNat : Nat) : Int) = a by omega]; exact Int.dvd_of_emod_eq_zero h1)
  have d2 : k.toNat ∣ b.toNat := Int.natCast_dvd_natCast.mp (by rw [show ((k.toNat : Nat) : Int) = k by omega, show ((b.toNat : Nat) : Int) = b by omega]; exact Int.dvd_of_emod_eq_zero h2)
  have d3 := Nat.le_of_dvd (Nat.gcd_pos_of_pos_right a.toNat (by omega : 0 < b.toNat)) (Nat.dvd_gcd d1 d2)
  unfold gcdI
  omega
/-- the upper or the lower number of a share in least terms -/
def shareR (a b w : Int) : Int := if w = 0 then a / gcdI a b else b / gcdI a b
section EVE1
variable {l : Launch} {E : qEv} {n : Nat} {sh : qSh} {I L : qI} {R : qR}
theorem ct_X6_share {a b w : Int} (ha : 0 ≤ a ∧ a < 2147483648) (hb : 1 ≤ b ∧ b < 2147483648) (hw : w = 0 ∨ w = 1) :
    Ct l E 0 mX6_share [.int (zI a), .int (zI b), .int (zI w)] (n, sh, I, L, R) 0 0 (qJ n sh (fun v I' L' R' => v = shareR a b w ∧ I' = I ∧ L' = L ∧ R' = R)) := by
  have hg := gcdI_bd (a := a) hb.1
  have hd := gcdI_dvd ha.1 hb.1
  obtain ⟨G, hG⟩ : ∃ G, G = gcdI a b := ⟨_, rfl⟩
  rw [← hG] at hg hd
  have q1 : 0 ≤ a / G ∧ a / G ≤ a := ⟨Int.ediv_nonneg ha.1 (by omega), Int.ediv_le_self _ ha.1⟩
  have q2 : 0 ≤ b / G ∧ b / G ≤ b := ⟨Int.ediv_nonneg (by omega) (by omega), Int.ediv_le_self _ (by omega)⟩
  have fin : ∀ d : Int, Wk l E (qmo E 0 n 0 0 (qJ n sh (fun v I' L' R' => v = shareR a b w ∧ I' = I ∧ L' = L ∧ R' = R))) mX6_share 0 0 39
      [(0, .int (zI a)), (1, .int (zI b)), (2, .int (zI w)), (3, .int (zI G)), (4, .int (zI d))] [] (n, sh, I, L, R) := by
    intro d
    refine wk_iload_n (i := 2) (q := 40) dX6_share_39 rfl rfl rfl ?_
    refine wk_if_ne (t := 50) (q := 43) dX6_share_40 rfl rfl (by omega) (fun hc40 => ?_) (fun hc40 => ?_)
    · refine wk_iload_n (i := 1) (q := 51) dX6_share_50 rfl rfl rfl ?_
      refine wk_iload_n (i := 3) (q := 52) dX6_share_51 rfl rfl rfl ?_
      refine wk_idiv (q := 53) dX6_share_52 rfl (by omega) (by omega) ?_
      refine wk_i2l (q := 54) dX6_share_53 rfl (by omega) ?_
      refine wk_lret dX6_share_54 rfl ⟨Nat.le_refl _, Nat.le_refl _⟩ rfl ?_
      refine ⟨_, _, _, _, rfl, rfl, ?_, rfl, rfl, rfl⟩
      unfold shareR
      rw [← hG]
      first
        | rw [if_pos (by omega)]
        | rw [if_neg (by omega)]
    · refine wk_iload_n (i := 0) (q := 44) dX6_share_43 rfl rfl rfl ?_
      refine wk_iload_n (i := 3) (q := 45) dX6_share_44 rfl rfl rfl ?_
      refine wk_idiv (q := 46) dX6_share_45 rfl (by omega) (by omega) ?_
      refine wk_i2l (q := 47) dX6_share_46 rfl (by omega) ?_
      refine wk_goto (t := 54) dX6_share_47 rfl ?_
      refine wk_lret dX6_share_54 rfl ⟨Nat.le_refl _, Nat.le_refl _⟩ rfl ?_
      refine ⟨_, _, _, _, rfl, rfl, ?_, rfl, rfl, rfl⟩
      unfold shareR
      rw [← hG]
      first
        | rw [if_pos (by omega)]
        | rw [if_neg (by omega)]
  have loop : ∀ k : Nat, (k : Int) ≤ b → (∀ e : Int, k < e → e ≤ b → ¬ (a % e = 0 ∧ b % e = 0)) → Wk l E (qmo E 0 n 0 0 (qJ n sh (fun v I' L' R' => v = shareR a b w ∧ I' = I ∧ L' = L ∧ R' = R))) mX6_share 0 0 5
      [(0, .int (zI a)), (1, .int (zI b)), (2, .int (zI w)), (3, .int (zI 1)), (4, .int (zI (k : Int)))] [] (n, sh, I, L, R) := by
    intro k
    induction k with
    | zero =>
      intro hk he
      have h1 : G = 1 := by
        have := he G
        omega
      refine wk_iload (i := 4) (q := 7) dX6_share_5 rfl rfl ?_
      refine wk_iconst (q := 8) dX6_share_7 rfl ?_
      refine wk_icmp_le (t := 39) (q := 11) dX6_share_8 rfl rfl (by omega) (by omega) (fun hc8 => ?_) (fun hc8 => ?_)
      · have f := fin 0
        rw [h1] at f
        exact f
      · omega
    | succ k ih =>
      intro hk he
      have keep : ¬ (a % ((k + 1 : Nat) : Int) = 0 ∧ b % ((k + 1 : Nat) : Int) = 0) → Wk l E (qmo E 0 n 0 0 (qJ n sh (fun v I' L' R' => v = shareR a b w ∧ I' = I ∧ L' = L ∧ R' = R))) mX6_share 0 0 33
          [(0, .int (zI a)), (1, .int (zI b)), (2, .int (zI w)), (3, .int (zI 1)), (4, .int (zI ((k + 1 : Nat) : Int)))] [] (n, sh, I, L, R) := by
        intro hq
        have ih' := ih (by omega) (fun e e0 e1 => by
          by_cases hz : e = ((k + 1 : Nat) : Int)
          · rw [hz]
            exact hq
          · exact he e (by omega) e1)
        refine wk_iinc (lo' := [(0, _), (1, _), (2, _), (3, _), (4, _)]) (q := 36) dX6_share_33 rfl rfl (by decide) rfl ?_
        refine wk_goto (t := 5) dX6_share_36 rfl ?_
        rw [show (((k + 1 : Nat) : Int) + -1) = (k : Int) by omega]
        exact ih'
      by_cases h2 : ((k + 1 : Nat) : Int) ≤ 1
      · have h1 : G = 1 := by
          have := he G
          omega
        refine wk_iload (i := 4) (q := 7) dX6_share_5 rfl rfl ?_
        refine wk_iconst (q := 8) dX6_share_7 rfl ?_
        refine wk_icmp_le (t := 39) (q := 11) dX6_share_8 rfl rfl (by omega) (by omega) (fun hc8 => ?_) (fun hc8 => ?_)
        · have f := fin ((k + 1 : Nat) : Int)
          rw [h1] at f
          exact f
        · omega
      · have m1 := Int.emod_nonneg a (by omega : ((k + 1 : Nat) : Int) ≠ 0)
        have m2 := Int.emod_lt_of_pos a (by omega : 0 < ((k + 1 : Nat) : Int))
        have m3 := Int.emod_nonneg b (by omega : ((k + 1 : Nat) : Int) ≠ 0)
        have m4 := Int.emod_lt_of_pos b (by omega : 0 < ((k + 1 : Nat) : Int))
        have found : a % ((k + 1 : Nat) : Int) = 0 → b % ((k + 1 : Nat) : Int) = 0 → Wk l E (qmo E 0 n 0 0 (qJ n sh (fun v I' L' R' => v = shareR a b w ∧ I' = I ∧ L' = L ∧ R' = R))) mX6_share 0 0 30
            [(0, .int (zI a)), (1, .int (zI b)), (2, .int (zI w)), (3, .int (zI 1)), (4, .int (zI ((k + 1 : Nat) : Int)))] [] (n, sh, I, L, R) := by
          intro z1 z2
          have h1 : G = ((k + 1 : Nat) : Int) := by
            have m1 := gcdI_most ha.1 hb.1 (k := ((k + 1 : Nat) : Int)) (by omega) z1 z2
            rw [← hG] at m1
            have m2 := he G
            omega
          refine wk_iload (i := 4) (q := 32) dX6_share_30 rfl rfl ?_
          refine wk_istore_n (i := 3) (lo' := [(0, _), (1, _), (2, _), (3, _), (4, _)]) (q := 33) dX6_share_32 rfl rfl (by decide) rfl ?_
          refine wk_iinc (lo' := [(0, _), (1, _), (2, _), (3, _), (4, _)]) (q := 36) dX6_share_33 rfl rfl (by decide) rfl ?_
          refine wk_goto (t := 5) dX6_share_36 rfl ?_
          refine wk_iload (i := 4) (q := 7) dX6_share_5 rfl rfl ?_
          refine wk_iconst (q := 8) dX6_share_7 rfl ?_
          refine wk_icmp_le (t := 39) (q := 11) dX6_share_8 rfl rfl (by omega) (by omega) (fun hc8 => ?_) (fun hc8 => ?_)
          · have f := fin (((k + 1 : Nat) : Int) + -1)
            rw [h1] at f
            exact f
          · refine wk_iload_n (i := 3) (q := 12) dX6_share_11 rfl rfl rfl ?_
            refine wk_iconst (q := 13) dX6_share_12 rfl ?_
            refine wk_icmp_ne (t := 39) (q := 16) dX6_share_13 rfl rfl (by omega) (by omega) (fun hc13 => ?_) (fun hc13 => ?_)
            · have f := fin (((k + 1 : Nat) : Int) + -1)
              rw [h1] at f
              exact f
            · omega
        refine wk_iload (i := 4) (q := 7) dX6_share_5 rfl rfl ?_
        refine wk_iconst (q := 8) dX6_share_7 rfl ?_
        refine wk_icmp_le (t := 39) (q := 11) dX6_share_8 rfl rfl (by omega) (by omega) (fun hc8 => ?_) (fun hc8 => ?_)
        · omega
        · refine wk_iload_n (i := 3) (q := 12) dX6_share_11 rfl rfl rfl ?_
          refine wk_iconst (q := 13) dX6_share_12 rfl ?_
          refine wk_icmp_ne (t := 39) (q := 16) dX6_share_13 rfl rfl (by omega) (by omega) (fun hc13 => ?_) (fun hc13 => ?_)
          · omega
          · refine wk_iload_n (i := 0) (q := 17) dX6_share_16 rfl rfl rfl ?_
            refine wk_iload (i := 4) (q := 19) dX6_share_17 rfl rfl ?_
            refine wk_irem (q := 20) dX6_share_19 rfl (by omega) (by omega) ?_
            refine wk_if_ne (t := 33) (q := 23) dX6_share_20 rfl rfl (by omega) (fun hc20 => ?_) (fun hc20 => ?_)
            · exact keep (fun q => by omega)
            · refine wk_iload_n (i := 1) (q := 24) dX6_share_23 rfl rfl rfl ?_
              refine wk_iload (i := 4) (q := 26) dX6_share_24 rfl rfl ?_
              refine wk_irem (q := 27) dX6_share_26 rfl (by omega) (by omega) ?_
              refine wk_if_ne (t := 33) (q := 30) dX6_share_27 rfl rfl (by omega) (fun hc27 => ?_) (fun hc27 => ?_)
              · exact keep (fun q => by omega)
              · exact found hc20 hc27
  have l0 := loop b.toNat (by omega) (fun e e0 e1 => by omega)
  rw [show ((b.toNat : Nat) : Int) = b by omega] at l0
  refine Ct.of (lo := [(0, _), (1, _), (2, _)]) ok_X6_share (Nat.le_of_ble_eq_true rfl) rfl ?_
  refine wk_iconst (q := 1) dX6_share_0 rfl ?_
  refine wk_istore_n (i := 3) (lo' := [(0, _), (1, _), (2, _), (3, _)]) (q := 2) dX6_share_1 rfl rfl (by decide) rfl ?_
  refine wk_iload_n (i := 1) (q := 3) dX6_share_2 rfl rfl rfl ?_
  refine wk_istore (i := 4) (lo' := [(0, _), (1, _), (2, _), (3, _), (4, _)]) (q := 5) dX6_share_3 rfl (by decide) rfl ?_
  exact l0
end EVE1
