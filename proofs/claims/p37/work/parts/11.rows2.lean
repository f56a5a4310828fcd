/-! ROWS: branches, switches, the stack, bits -/
section QR2
variable {l : Launch} {E : qEv} {Y : qMo} {M : qMD} {k j : Nat} {pc q : Nat} {lo : List (Nat × Value)} {st : List Value} {S : qS}
theorem z_0 : (0 : Int32) = zI 0 := by decide +kernel
theorem wk_icmp_eq {a b : Int} {off : Int} {t : Nat} (hd : decode M.2.1 pc = .ok (.if_icmp .eq off, 3)) (ht : (pc : Int) + off = (t : Int)) (hq : pc + 3 = q) (ha : in32 a) (hb : in32 b) (kt : a = b → Wk l E Y M k j t lo st S) (kf : a ≠ b → Wk l E Y M k j q lo st S) : Wk l E Y M k j pc lo (.int (zI b) :: .int (zI a) :: st) S := by
  subst hq
  intro p e s m args below meth c H locs ls hB hH hl
  exact lv_icmp_eq hB.1 hB.2.1 hd ht (fun h => kt ((zI_eq ha hb).mp h) p e s m args below meth c H locs ls hB hH hl) (fun h => kf (fun e => h ((zI_eq ha hb).mpr e)) p e s m args below meth c H locs ls hB hH hl)
theorem wk_if_eq {a : Int} {off : Int} {t : Nat} (hd : decode M.2.1 pc = .ok (.ifCond .eq off, 3)) (ht : (pc : Int) + off = (t : Int)) (hq : pc + 3 = q) (ha : in32 a) (kt : a = 0 → Wk l E Y M k j t lo st S) (kf : a ≠ 0 → Wk l E Y M k j q lo st S) : Wk l E Y M k j pc lo (.int (zI a) :: st) S := by
  subst hq
  have hb : in32 0 := ⟨by omega, by omega⟩
  intro p e s m args below meth c H locs ls hB hH hl
  exact lv_if_eq hB.1 hB.2.1 hd ht (fun h => kt (by rw [z_0] at h; exact (zI_eq ha hb).mp h) p e s m args below meth c H locs ls hB hH hl) (fun h => kf (by rw [z_0] at h; exact fun e => h ((zI_eq ha hb).mpr e)) p e s m args below meth c H locs ls hB hH hl)
theorem wk_icmp_ne {a b : Int} {off : Int} {t : Nat} (hd : decode M.2.1 pc = .ok (.if_icmp .ne off, 3)) (ht : (pc : Int) + off = (t : Int)) (hq : pc + 3 = q) (ha : in32 a) (hb : in32 b) (kt : a ≠ b → Wk l E Y M k j t lo st S) (kf : a = b → Wk l E Y M k j q lo st S) : Wk l E Y M k j pc lo (.int (zI b) :: .int (zI a) :: st) S := by
  subst hq
  intro p e s m args below meth c H locs ls hB hH hl
  exact lv_icmp_ne hB.1 hB.2.1 hd ht (fun h => kt (fun e => h ((zI_eq ha hb).mpr e)) p e s m args below meth c H locs ls hB hH hl) (fun h => kf ((zI_eq ha hb).mp h) p e s m args below meth c H locs ls hB hH hl)
theorem wk_if_ne {a : Int} {off : Int} {t : Nat} (hd : decode M.2.1 pc = .ok (.ifCond .ne off, 3)) (ht : (pc : Int) + off = (t : Int)) (hq : pc + 3 = q) (ha : in32 a) (kt : a ≠ 0 → Wk l E Y M k j t lo st S) (kf : a = 0 → Wk l E Y M k j q lo st S) : Wk l E Y M k j pc lo (.int (zI a) :: st) S := by
  subst hq
  have hb : in32 0 := ⟨by omega, by omega⟩
  intro p e s m args below meth c H locs ls hB hH hl
  exact lv_if_ne hB.1 hB.2.1 hd ht (fun h => kt (by rw [z_0] at h; exact fun e => h ((zI_eq ha hb).mpr e)) p e s m args below meth c H locs ls hB hH hl) (fun h => kf (by rw [z_0] at h; exact (zI_eq ha hb).mp h) p e s m args below meth c H locs ls hB hH hl)
theorem wk_icmp_lt {a b : Int} {off : Int} {t : Nat} (hd : decode M.2.1 pc = .ok (.if_icmp .lt off, 3)) (ht : (pc : Int) + off = (t : Int)) (hq : pc + 3 = q) (ha : in32 a) (hb : in32 b) (kt : a < b → Wk l E Y M k j t lo st S) (kf : b ≤ a → Wk l E Y M k j q lo st S) : Wk l E Y M k j pc lo (.int (zI b) :: .int (zI a) :: st) S := by
  subst hq
  intro p e s m args below meth c H locs ls hB hH hl
  exact lv_icmp_lt hB.1 hB.2.1 hd ht (fun h => kt ((zI_lt ha hb).mp h) p e s m args below meth c H locs ls hB hH hl) (fun h => kf ((by have := mt (zI_lt ha hb).mpr h; omega)) p e s m args below meth c H locs ls hB hH hl)
theorem wk_if_lt {a : Int} {off : Int} {t : Nat} (hd : decode M.2.1 pc = .ok (.ifCond .lt off, 3)) (ht : (pc : Int) + off = (t : Int)) (hq : pc + 3 = q) (ha : in32 a) (kt : a < 0 → Wk l E Y M k j t lo st S) (kf : 0 ≤ a → Wk l E Y M k j q lo st S) : Wk l E Y M k j pc lo (.int (zI a) :: st) S := by
  subst hq
  have hb : in32 0 := ⟨by omega, by omega⟩
  intro p e s m args below meth c H locs ls hB hH hl
  exact lv_if_lt hB.1 hB.2.1 hd ht (fun h => kt (by rw [z_0] at h; exact (zI_lt ha hb).mp h) p e s m args below meth c H locs ls hB hH hl) (fun h => kf (by rw [z_0] at h; exact (by have := mt (zI_lt ha hb).mpr h; omega)) p e s m args below meth c H locs ls hB hH hl)
theorem wk_icmp_ge {a b : Int} {off : Int} {t : Nat} (hd : decode M.2.1 pc = .ok (.if_icmp .ge off, 3)) (ht : (pc : Int) + off = (t : Int)) (hq : pc + 3 = q) (ha : in32 a) (hb : in32 b) (kt : b ≤ a → Wk l E Y M k j t lo st S) (kf : a < b → Wk l E Y M k j q lo st S) : Wk l E Y M k j pc lo (.int (zI b) :: .int (zI a) :: st) S := by
  subst hq
  intro p e s m args below meth c H locs ls hB hH hl
  exact lv_icmp_ge hB.1 hB.2.1 hd ht (fun h => kt ((zI_le hb ha).mp h) p e s m args below meth c H locs ls hB hH hl) (fun h => kf ((by have := mt (zI_le hb ha).mpr h; omega)) p e s m args below meth c H locs ls hB hH hl)
theorem wk_if_ge {a : Int} {off : Int} {t : Nat} (hd : decode M.2.1 pc = .ok (.ifCond .ge off, 3)) (ht : (pc : Int) + off = (t : Int)) (hq : pc + 3 = q) (ha : in32 a) (kt : 0 ≤ a → Wk l E Y M k j t lo st S) (kf : a < 0 → Wk l E Y M k j q lo st S) : Wk l E Y M k j pc lo (.int (zI a) :: st) S := by
  subst hq
  have hb : in32 0 := ⟨by omega, by omega⟩
  intro p e s m args below meth c H locs ls hB hH hl
  exact lv_if_ge hB.1 hB.2.1 hd ht (fun h => kt (by rw [z_0] at h; exact (zI_le hb ha).mp h) p e s m args below meth c H locs ls hB hH hl) (fun h => kf (by rw [z_0] at h; exact (by have := mt (zI_le hb ha).mpr h; omega)) p e s m args below meth c H locs ls hB hH hl)
theorem wk_icmp_gt {a b : Int} {off : Int} {t : Nat} (hd : decode M.2.1 pc = .ok (.if_icmp .gt off, 3)) (ht : (pc : Int) + off = (t : Int)) (hq : pc + 3 = q) (ha : in32 a) (hb : in32 b) (kt : b < a → Wk l E Y M k j t lo st S) (kf : a ≤ b → Wk l E Y M k j q lo st S) : Wk l E Y M k j pc lo (.int (zI b) :: .int (zI a) :: st) S := by
  subst hq
  intro p e s m args below meth c H locs ls hB hH hl
  exact lv_icmp_gt hB.1 hB.2.1 hd ht (fun h => kt ((zI_lt hb ha).mp h) p e s m args below meth c H locs ls hB hH hl) (fun h => kf ((by have := mt (zI_lt hb ha).mpr h; omega)) p e s m args below meth c H locs ls hB hH hl)
theorem wk_if_gt {a : Int} {off : Int} {t : Nat} (hd : decode M.2.1 pc = .ok (.ifCond .gt off, 3)) (ht : (pc : Int) + off = (t : Int)) (hq : pc + 3 = q) (ha : in32 a) (kt : 0 < a → Wk l E Y M k j t lo st S) (kf : a ≤ 0 → Wk l E Y M k j q lo st S) : Wk l E Y M k j pc lo (.int (zI a) :: st) S := by
  subst hq
  have hb : in32 0 := ⟨by omega, by omega⟩
  intro p e s m args below meth c H locs ls hB hH hl
  exact lv_if_gt hB.1 hB.2.1 hd ht (fun h => kt (by rw [z_0] at h; exact (zI_lt hb ha).mp h) p e s m args below meth c H locs ls hB hH hl) (fun h => kf (by rw [z_0] at h; exact (by have := mt (zI_lt hb ha).mpr h; omega)) p e s m args below meth c H locs ls hB hH hl)
theorem wk_icmp_le {a b : Int} {off : Int} {t : Nat} (hd : decode M.2.1 pc = .ok (.if_icmp .le off, 3)) (ht : (pc : Int) + off = (t : Int)) (hq : pc + 3 = q) (ha : in32 a) (hb : in32 b) (kt : a ≤ b → Wk l E Y M k j t lo st S) (kf : b < a → Wk l E Y M k j q lo st S) : Wk l E Y M k j pc lo (.int (zI b) :: .int (zI a) :: st) S := by
  subst hq
  intro p e s m args below meth c H locs ls hB hH hl
  exact lv_icmp_le hB.1 hB.2.1 hd ht (fun h => kt ((zI_le ha hb).mp h) p e s m args below meth c H locs ls hB hH hl) (fun h => kf ((by have := mt (zI_le ha hb).mpr h; omega)) p e s m args below meth c H locs ls hB hH hl)
theorem wk_if_le {a : Int} {off : Int} {t : Nat} (hd : decode M.2.1 pc = .ok (.ifCond .le off, 3)) (ht : (pc : Int) + off = (t : Int)) (hq : pc + 3 = q) (ha : in32 a) (kt : a ≤ 0 → Wk l E Y M k j t lo st S) (kf : 0 < a → Wk l E Y M k j q lo st S) : Wk l E Y M k j pc lo (.int (zI a) :: st) S := by
  subst hq
  have hb : in32 0 := ⟨by omega, by omega⟩
  intro p e s m args below meth c H locs ls hB hH hl
  exact lv_if_le hB.1 hB.2.1 hd ht (fun h => kt (by rw [z_0] at h; exact (zI_le ha hb).mp h) p e s m args below meth c H locs ls hB hH hl) (fun h => kf (by rw [z_0] at h; exact (by have := mt (zI_le ha hb).mpr h; omega)) p e s m args below meth c H locs ls hB hH hl)
theorem wk_goto {off : Int} {t : Nat} (hd : decode M.2.1 pc = .ok (.goto off, 3)) (ht : (pc : Int) + off = (t : Int)) (h : Wk l E Y M k j t lo st S) : Wk l E Y M k j pc lo st S := by
  intro p e s m args below meth c H locs ls hB hH hl
  exact lv_goto hB.1 hB.2.1 hd ht (h p e s m args below meth c H locs ls hB hH hl)
/-- a long compare and the branch behind it -/
theorem wk_lcmp {a b : Int} (hd : decode M.2.1 pc = .ok (.lcmp, 1)) (hq : pc + 1 = q) (ha : in64 a) (hb : in64 b) (h1 : b < a → Wk l E Y M k j q lo (.int (zI 1) :: st) S) (h2 : a = b → Wk l E Y M k j q lo (.int (zI 0) :: st) S) (h3 : a < b → Wk l E Y M k j q lo (.int (zI (-1)) :: st) S) : Wk l E Y M k j pc lo (.long (zL b) :: .long (zL a) :: st) S := by
  subst hq
  intro p e s m args below meth c H locs ls hB hH hl
  refine W.lcmp hB.1 hB.2.1 hd ?_
  rcases (by omega : b < a ∨ a = b ∨ a < b) with hc | hc | hc
  · rw [show lg_cmp (zL a) (zL b) = zI 1 by unfold lg_cmp; rw [if_pos ((zL_lt hb ha).mpr hc)]; rfl]
    exact h1 hc p e s m args below meth c H locs ls hB hH hl
  · rw [show lg_cmp (zL a) (zL b) = zI 0 by subst hc; simp [lg_cmp]; rfl]
    exact h2 hc p e s m args below meth c H locs ls hB hH hl
  · rw [show lg_cmp (zL a) (zL b) = zI (-1) by
      unfold lg_cmp
      rw [if_neg (fun h => by have := (zL_lt hb ha).mp h; omega)]
      first
        | rw [if_pos ((zL_lt ha hb).mpr hc)]; rfl
        | rw [if_neg (fun h => by have := (zL_eq ha hb).mp h; omega)]; rfl]
    exact h3 hc p e s m args below meth c H locs ls hB hH hl
theorem wk_dup {v : Value} (hd : decode M.2.1 pc = .ok (.dup, 1)) (hq : pc + 1 = q) (hv : v.category = 1) (h : Wk l E Y M k j q lo (v :: v :: st) S) : Wk l E Y M k j pc lo (v :: st) S := by
  subst hq
  intro p e s m args below meth c H locs ls hB hH hl
  exact lv_dup hB.1 hB.2.1 hd hv (h p e s m args below meth c H locs ls hB hH hl)
theorem wk_dup_x1 {v w : Value} (hd : decode M.2.1 pc = .ok (.dup_x1, 1)) (hq : pc + 1 = q) (hv : v.category = 1) (hw : w.category = 1) (h : Wk l E Y M k j q lo (v :: w :: v :: st) S) : Wk l E Y M k j pc lo (v :: w :: st) S := by
  subst hq
  intro p e s m args below meth c H locs ls hB hH hl
  exact lv_dup_x1 hB.1 hB.2.1 hd hv hw (h p e s m args below meth c H locs ls hB hH hl)
theorem wk_dup2 {v w : Value} (hd : decode M.2.1 pc = .ok (.dup2, 1)) (hq : pc + 1 = q) (hv : v.category = 1) (hw : w.category = 1) (h : Wk l E Y M k j q lo (v :: w :: v :: w :: st) S) : Wk l E Y M k j pc lo (v :: w :: st) S := by
  subst hq
  intro p e s m args below meth c H locs ls hB hH hl
  exact lv_dup2_11 hB.1 hB.2.1 hd hv hw (h p e s m args below meth c H locs ls hB hH hl)
theorem wk_pop {v : Value} (hd : decode M.2.1 pc = .ok (.pop, 1)) (hq : pc + 1 = q) (hv : v.category = 1) (h : Wk l E Y M k j q lo st S) : Wk l E Y M k j pc lo (v :: st) S := by
  subst hq
  intro p e s m args below meth c H locs ls hB hH hl
  exact lv_pop hB.1 hB.2.1 hd hv (h p e s m args below meth c H locs ls hB hH hl)
/-- a byte, a short of a number -/
def zB (a : Int) : Int := ((zI a).toInt8.toInt32).toInt
def zS (a : Int) : Int := ((zI a).toInt16.toInt32).toInt
theorem wk_i2b {a : Int} (hd : decode M.2.1 pc = .ok (.i2b, 1)) (hq : pc + 1 = q) (h : Wk l E Y M k j q lo (.int (zI (zB a)) :: st) S) : Wk l E Y M k j pc lo (.int (zI a) :: st) S := by
  subst hq
  intro p e s m args below meth c H locs ls hB hH hl
  exact lv_i2b hB.1 hB.2.1 hd (zI_of _).symm (h p e s m args below meth c H locs ls hB hH hl)
theorem wk_i2s {a : Int} (hd : decode M.2.1 pc = .ok (.i2s, 1)) (hq : pc + 1 = q) (h : Wk l E Y M k j q lo (.int (zI (zS a)) :: st) S) : Wk l E Y M k j pc lo (.int (zI a) :: st) S := by
  subst hq
  intro p e s m args below meth c H locs ls hB hH hl
  exact lv_i2s hB.1 hB.2.1 hd (zI_of _).symm (h p e s m args below meth c H locs ls hB hH hl)
def zAnd (a b : Int) : Int := (zI a &&& zI b).toInt
def zOr (a b : Int) : Int := (zI a ||| zI b).toInt
def zXor (a b : Int) : Int := (zI a ^^^ zI b).toInt
def zShl (a b : Int) : Int := (zI a <<< (zI b &&& 31)).toInt
theorem wk_iand {a b : Int} (hd : decode M.2.1 pc = .ok (.iand, 1)) (hq : pc + 1 = q) (h : Wk l E Y M k j q lo (.int (zI (zAnd a b)) :: st) S) : Wk l E Y M k j pc lo (.int (zI b) :: .int (zI a) :: st) S := by
  subst hq
  intro p e s m args below meth c H locs ls hB hH hl
  refine lv_iand hB.1 hB.2.1 hd ?_
  rw [← zI_of (zI a &&& zI b)]
  exact h p e s m args below meth c H locs ls hB hH hl
theorem wk_ior {a b : Int} (hd : decode M.2.1 pc = .ok (.ior, 1)) (hq : pc + 1 = q) (h : Wk l E Y M k j q lo (.int (zI (zOr a b)) :: st) S) : Wk l E Y M k j pc lo (.int (zI b) :: .int (zI a) :: st) S := by
  subst hq
  intro p e s m args below meth c H locs ls hB hH hl
  refine lv_ior hB.1 hB.2.1 hd ?_
  rw [← zI_of (zI a ||| zI b)]
  exact h p e s m args below meth c H locs ls hB hH hl
theorem wk_ixor {a b : Int} (hd : decode M.2.1 pc = .ok (.ixor, 1)) (hq : pc + 1 = q) (h : Wk l E Y M k j q lo (.int (zI (zXor a b)) :: st) S) : Wk l E Y M k j pc lo (.int (zI b) :: .int (zI a) :: st) S := by
  subst hq
  intro p e s m args below meth c H locs ls hB hH hl
  refine lv_ixor hB.1 hB.2.1 hd ?_
  rw [← zI_of (zI a ^^^ zI b)]
  exact h p e s m args below meth c H locs ls hB hH hl
theorem wk_ishl {a b : Int} (hd : decode M.2.1 pc = .ok (.ishl, 1)) (hq : pc + 1 = q) (h : Wk l E Y M k j q lo (.int (zI (zShl a b)) :: st) S) : Wk l E Y M k j pc lo (.int (zI b) :: .int (zI a) :: st) S := by
  subst hq
  intro p e s m args below meth c H locs ls hB hH hl
  refine lv_ishl hB.1 hB.2.1 hd ?_
  rw [← zI_of (zI a <<< (zI b &&& 31))]
  exact h p e s m args below meth c H locs ls hB hH hl
theorem wk_tsIn {a : Int} {dflt lo0 hi : Int} {offs : Array Int} {len : Nat} {off : Int} {t : Nat} (hd : decode M.2.1 pc = .ok (.tableswitch dflt lo0 hi offs, len)) (ha : in32 a) (h1 : lo0 ≤ a) (h2 : a ≤ hi) (ho : offs[(a - lo0).toNat]? = some off) (ht : (pc : Int) + off = (t : Int)) (h : Wk l E Y M k j t lo st S) : Wk l E Y M k j pc lo (.int (zI a) :: st) S := by
  intro p e s m args below meth c H locs ls hB hH hl
  exact lv_tableIn hB.1 hB.2.1 hd (by rw [zI_toInt ha]; omega) (by rw [zI_toInt ha]; omega) (by rw [zI_toInt ha]; exact ho) ht (h p e s m args below meth c H locs ls hB hH hl)
theorem wk_tsOut {a : Int} {dflt lo0 hi : Int} {offs : Array Int} {len : Nat} {t : Nat} (hd : decode M.2.1 pc = .ok (.tableswitch dflt lo0 hi offs, len)) (ha : in32 a) (h1 : a < lo0 ∨ hi < a) (ht : (pc : Int) + dflt = (t : Int)) (h : Wk l E Y M k j t lo st S) : Wk l E Y M k j pc lo (.int (zI a) :: st) S := by
  intro p e s m args below meth c H locs ls hB hH hl
  exact lv_tableOut hB.1 hB.2.1 hd (by rw [zI_toInt ha]; omega) ht (h p e s m args below meth c H locs ls hB hH hl)
theorem wk_lookup {a : Int} {dflt : Int} {ps : Array (Int × Int)} {len : Nat} {off : Int} {t : Nat} (hd : decode M.2.1 pc = .ok (.lookupswitch dflt ps, len)) (ha : in32 a) (hp : (ps.toList.zip (ps.toList.drop 1)).all (fun (a, next) => a.1 < next.1) = true) (ho : Op.lookupswitch.offset ps.toList dflt a = off) (ht : (pc : Int) + off = (t : Int)) (h : Wk l E Y M k j t lo st S) : Wk l E Y M k j pc lo (.int (zI a) :: st) S := by
  intro p e s m args below meth c H locs ls hB hH hl
  exact lv_lookup hB.1 hB.2.1 hd hp (by rw [zI_toInt ha]; exact ho) ht (h p e s m args below meth c H locs ls hB hH hl)
end QR2
