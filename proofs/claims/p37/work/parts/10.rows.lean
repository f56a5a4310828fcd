/-! ROWS: an instruction's, over the pure heap -/
def lget : List (Nat × Value) → Nat → Option Value
  | [], _ => none
  | (j, v) :: r, i => match Nat.beq j i with
    | true => some v
    | false => lget r i
theorem lget_mem : ∀ {lo : List (Nat × Value)} {i : Nat} {v : Value}, lget lo i = some v → (i, v) ∈ lo
  | [], _, _, h => by cases h
  | (j, w) :: r, i, v, h => by
    unfold lget at h
    cases hb : Nat.beq j i with
    | true =>
      rw [hb] at h
      have e : j = i := Nat.eq_of_beq_eq_true hb
      cases h
      subst e
      exact List.mem_cons_self
    | false =>
      rw [hb] at h
      exact List.mem_cons_of_mem _ (lget_mem h)
def lcat2 : Value → Bool
  | .long _ => true
  | .double _ => true
  | _ => false
theorem lcat2_ok (v : Value) (h : lcat2 v = false) : ¬ v.category = 2 := by cases v <;> simp_all [lcat2, Value.category]
def ldrop (i : Nat) : List (Nat × Value) → List (Nat × Value)
  | [] => []
  | (j, w) :: r => match Nat.beq j i with
    | true => ldrop i r
    | false => match Nat.beq (j + 1) i, lcat2 w with
      | true, true => ldrop i r
      | _, _ => (j, w) :: ldrop i r
def lins (i : Nat) (v : Value) : List (Nat × Value) → List (Nat × Value)
  | [] => [(i, v)]
  | (j, w) :: r => match Nat.ble j i with
    | true => (j, w) :: lins i v r
    | false => (i, v) :: (j, w) :: r
theorem lins_mem {i : Nat} {v : Value} {q : Nat × Value} : ∀ {l : List (Nat × Value)}, q ∈ lins i v l → q = (i, v) ∨ q ∈ l
  | [], h => Or.inl (List.mem_singleton.mp h)
  | (j, w) :: r, h => by
    unfold lins at h
    cases hb : Nat.ble j i with
    | true =>
      rw [hb] at h
      rcases List.mem_cons.mp h with h | h
      · exact Or.inr (h ▸ List.mem_cons_self)
      · rcases lins_mem h with h | h
        · exact Or.inl h
        · exact Or.inr (List.mem_cons_of_mem _ h)
    | false =>
      rw [hb] at h
      rcases List.mem_cons.mp h with h | h
      · exact Or.inl h
      · exact Or.inr h
theorem ldrop_mem {i : Nat} {q : Nat × Value} : ∀ {l : List (Nat × Value)}, q ∈ ldrop i l → q ∈ l ∧ q.1 ≠ i ∧ ¬ (q.1 + 1 = i ∧ q.2.category = 2)
  | [], h => by cases h
  | (j, w) :: r, h => by
    unfold ldrop at h
    cases hb : Nat.beq j i with
    | true =>
      rw [hb] at h
      obtain ⟨h1, h2⟩ := ldrop_mem h
      exact ⟨List.mem_cons_of_mem _ h1, h2⟩
    | false =>
      rw [hb] at h
      have hji : j ≠ i := Nat.ne_of_beq_eq_false hb
      cases hc : Nat.beq (j + 1) i with
      | true =>
        cases hw : lcat2 w with
        | true =>
          rw [hc, hw] at h
          obtain ⟨h1, h2⟩ := ldrop_mem h
          exact ⟨List.mem_cons_of_mem _ h1, h2⟩
        | false =>
          rw [hc, hw] at h
          rcases List.mem_cons.mp h with h | h
          · subst h
            exact ⟨List.mem_cons_self, hji, fun q => lcat2_ok w hw q.2⟩
          · obtain ⟨h1, h2⟩ := ldrop_mem h
            exact ⟨List.mem_cons_of_mem _ h1, h2⟩
      | false =>
        rw [hc] at h
        have hji2 : j + 1 ≠ i := Nat.ne_of_beq_eq_false hc
        rcases List.mem_cons.mp h with h | h
        · subst h
          exact ⟨List.mem_cons_self, hji, fun q => hji2 q.1⟩
        · obtain ⟨h1, h2⟩ := ldrop_mem h
          exact ⟨List.mem_cons_of_mem _ h1, h2⟩
def lset (i : Nat) (v : Value) (lo : List (Nat × Value)) : List (Nat × Value) := lins i v (ldrop i lo)
/-- a long: its second half goes too -/
def ldrop2 (i : Nat) : List (Nat × Value) → List (Nat × Value)
  | [] => []
  | (j, w) :: r => match Nat.beq j (i + 1) with
    | true => ldrop2 i r
    | false => (j, w) :: ldrop2 i r
theorem ldrop2_mem {i : Nat} {q : Nat × Value} : ∀ {l : List (Nat × Value)}, q ∈ ldrop2 i l → q ∈ l ∧ q.1 ≠ i + 1
  | [], h => by cases h
  | (j, w) :: r, h => by
    unfold ldrop2 at h
    cases hb : Nat.beq j (i + 1) with
    | true =>
      rw [hb] at h
      obtain ⟨h1, h2⟩ := ldrop2_mem h
      exact ⟨List.mem_cons_of_mem _ h1, h2⟩
    | false =>
      rw [hb] at h
      rcases List.mem_cons.mp h with h | h
      · subst h
        exact ⟨List.mem_cons_self, Nat.ne_of_beq_eq_false hb⟩
      · obtain ⟨h1, h2⟩ := ldrop2_mem h
        exact ⟨List.mem_cons_of_mem _ h1, h2⟩
def lset2 (i : Nat) (v : Value) (lo : List (Nat × Value)) : List (Nat × Value) := lins i v (ldrop2 i (ldrop i lo))
theorem lset_has {ls : Array Slot} {nL i : Nat} {v : Value} {lo : List (Nat × Value)} (h : lv_has ls nL ((i, v) :: lo.filter (fun q => !(q.1 == i) && !(q.1 + 1 == i && q.2.category == 2)))) : lv_has ls nL (lset i v lo) := by
  refine ⟨h.1, h.2.1, fun q hq => ?_⟩
  rcases lins_mem hq with rfl | hq
  · exact h.2.2 _ List.mem_cons_self
  · obtain ⟨h1, h2, h3⟩ := ldrop_mem hq
    refine h.2.2 q (List.mem_cons_of_mem _ (List.mem_filter.mpr ⟨h1, ?_⟩))
    simp only [Bool.and_eq_true, Bool.not_eq_true', beq_eq_false_iff_ne, Bool.and_eq_false_iff, ne_eq]
    refine ⟨h2, ?_⟩
    by_cases e : q.1 + 1 = i
    · exact Or.inr (fun c => h3 ⟨e, c⟩)
    · exact Or.inl e
theorem lset2_has {ls : Array Slot} {nL i : Nat} {v : Value} {lo : List (Nat × Value)} (h : lv_has ls nL ((i, v) :: lo.filter (fun q => !(q.1 == i) && (!(q.1 == i + 1) && !(q.1 + 1 == i && q.2.category == 2))))) : lv_has ls nL (lset2 i v lo) := by
  refine ⟨h.1, h.2.1, fun q hq => ?_⟩
  rcases lins_mem hq with rfl | hq
  · exact h.2.2 _ List.mem_cons_self
  · obtain ⟨h0, h4⟩ := ldrop2_mem hq
    obtain ⟨h1, h2, h3⟩ := ldrop_mem h0
    refine h.2.2 q (List.mem_cons_of_mem _ (List.mem_filter.mpr ⟨h1, ?_⟩))
    simp only [Bool.and_eq_true, Bool.not_eq_true', beq_eq_false_iff_ne, Bool.and_eq_false_iff, ne_eq]
    refine ⟨h2, h4, ?_⟩
    by_cases e : q.1 + 1 = i
    · exact Or.inr (fun c => h3 ⟨e, c⟩)
    · exact Or.inl e
section QR
variable {l : Launch} {E : qEv} {Y : qMo} {M : qMD} {k j : Nat} {pc q : Nat} {lo : List (Nat × Value)} {st : List Value} {S : qS}
theorem wk_iconst {n : Int} (hd : decode M.2.1 pc = .ok (.iconst n, 1)) (hq : pc + 1 = q) (h : Wk l E Y M k j q lo (.int (zI n) :: st) S) : Wk l E Y M k j pc lo st S := by
  subst hq
  intro p e s m args below meth c H locs ls hB hH hl
  exact lv_iconst hB.1 hB.2.1 hd rfl (h p e s m args below meth c H locs ls hB hH hl)
theorem wk_bipush {n : Int} (hd : decode M.2.1 pc = .ok (.bipush n, 2)) (hq : pc + 2 = q) (hv : (Int8.ofInt n).toInt32 = zI n) (h : Wk l E Y M k j q lo (.int (zI n) :: st) S) : Wk l E Y M k j pc lo st S := by
  subst hq
  intro p e s m args below meth c H locs ls hB hH hl
  exact lv_bipush hB.1 hB.2.1 hd hv (h p e s m args below meth c H locs ls hB hH hl)
theorem wk_sipush {n : Int} (hd : decode M.2.1 pc = .ok (.sipush n, 3)) (hq : pc + 3 = q) (hv : (Int16.ofInt n).toInt32 = zI n) (h : Wk l E Y M k j q lo (.int (zI n) :: st) S) : Wk l E Y M k j pc lo st S := by
  subst hq
  intro p e s m args below meth c H locs ls hB hH hl
  exact lv_sipush hB.1 hB.2.1 hd hv (h p e s m args below meth c H locs ls hB hH hl)
theorem wk_lconst {n : Fin 2} {z : Int} (hd : decode M.2.1 pc = .ok (.lconst n, 1)) (hq : pc + 1 = q) (hz : Int64.ofNat (n : Nat) = zL z) (h : Wk l E Y M k j q lo (.long (zL z) :: st) S) : Wk l E Y M k j pc lo st S := by
  subst hq
  intro p e s m args below meth c H locs ls hB hH hl
  exact lv_lconst hB.1 hB.2.1 hd hz (h p e s m args below meth c H locs ls hB hH hl)
theorem wk_ldc2 {index : Nat} {z : Int} {v : Int64} (hd : decode M.2.1 pc = .ok (.ldc2_w index, 3)) (hq : pc + 3 = q) (hw : Cond.constantLong M.1.cls index v ∈ qtb) (hz : v = zL z) (h : Wk l E Y M k j q lo (.long (zL z) :: st) S) : Wk l E Y M k j pc lo st S := by
  subst hq
  subst hz
  intro p e s m args below meth c H locs ls hB hH hl
  exact lv_ldc2 hB.1 hB.2.1 hB.2.2.2.2.1 (hB.2.2.2.2.2.2.1 _ (List.mem_cons_of_mem _ hw)) hd (h p e s m args below meth c H locs ls hB hH hl)
theorem wk_iload_n {kk : Fin 4} {i : Nat} {x : Int32} (hd : decode M.2.1 pc = .ok (.iload_n kk, 1)) (hq : pc + 1 = q) (hi : (kk : Nat) = i) (hg : lget lo i = some (.int x)) (h : Wk l E Y M k j q lo (.int x :: st) S) : Wk l E Y M k j pc lo st S := by
  subst hq
  intro p e s m args below meth c H locs ls hB hH hl
  exact lv_iload_n hB.1 hB.2.1 hd hi (hl.2.2 _ (lget_mem hg)) (h p e s m args below meth c H locs ls hB hH hl)
theorem wk_iload {i : Nat} {x : Int32} (hd : decode M.2.1 pc = .ok (.iload i, 2)) (hq : pc + 2 = q) (hg : lget lo i = some (.int x)) (h : Wk l E Y M k j q lo (.int x :: st) S) : Wk l E Y M k j pc lo st S := by
  subst hq
  intro p e s m args below meth c H locs ls hB hH hl
  exact lv_iload hB.1 hB.2.1 hd (hl.2.2 _ (lget_mem hg)) (h p e s m args below meth c H locs ls hB hH hl)
theorem wk_lload_n {kk : Fin 4} {i : Nat} {x : Int64} (hd : decode M.2.1 pc = .ok (.lload_n kk, 1)) (hq : pc + 1 = q) (hi : (kk : Nat) = i) (hg : lget lo i = some (.long x)) (h : Wk l E Y M k j q lo (.long x :: st) S) : Wk l E Y M k j pc lo st S := by
  subst hq
  intro p e s m args below meth c H locs ls hB hH hl
  exact lv_lload_n hB.1 hB.2.1 hd hi (hl.2.2 _ (lget_mem hg)) (h p e s m args below meth c H locs ls hB hH hl)
theorem wk_lload {i : Nat} {x : Int64} (hd : decode M.2.1 pc = .ok (.lload i, 2)) (hq : pc + 2 = q) (hg : lget lo i = some (.long x)) (h : Wk l E Y M k j q lo (.long x :: st) S) : Wk l E Y M k j pc lo st S := by
  subst hq
  intro p e s m args below meth c H locs ls hB hH hl
  exact lv_lload hB.1 hB.2.1 hd (hl.2.2 _ (lget_mem hg)) (h p e s m args below meth c H locs ls hB hH hl)
theorem wk_aload_n {kk : Fin 4} {i a : Nat} (hd : decode M.2.1 pc = .ok (.aload_n kk, 1)) (hq : pc + 1 = q) (hi : (kk : Nat) = i) (hg : lget lo i = some (.ref a)) (h : Wk l E Y M k j q lo (.ref a :: st) S) : Wk l E Y M k j pc lo st S := by
  subst hq
  intro p e s m args below meth c H locs ls hB hH hl
  exact lv_aload_n hB.1 hB.2.1 hd hi (hl.2.2 _ (lget_mem hg)) (h p e s m args below meth c H locs ls hB hH hl)
theorem wk_aload {i a : Nat} (hd : decode M.2.1 pc = .ok (.aload i, 2)) (hq : pc + 2 = q) (hg : lget lo i = some (.ref a)) (h : Wk l E Y M k j q lo (.ref a :: st) S) : Wk l E Y M k j pc lo st S := by
  subst hq
  intro p e s m args below meth c H locs ls hB hH hl
  exact lv_aload hB.1 hB.2.1 hd (hl.2.2 _ (lget_mem hg)) (h p e s m args below meth c H locs ls hB hH hl)
theorem wk_istore_n {kk : Fin 4} {i : Nat} {x : Int32} {lo' : List (Nat × Value)} (hd : decode M.2.1 pc = .ok (.istore_n kk, 1)) (hq : pc + 1 = q) (hi : (kk : Nat) = i) (hn : i < M.2.2.1) (hs : lset i (.int x) lo = lo') (h : Wk l E Y M k j q lo' st S) : Wk l E Y M k j pc lo (.int x :: st) S := by
  subst hq
  subst hs
  intro p e s m args below meth c H locs ls hB hH hl
  exact lv_istore_n hB.1 hB.2.1 hd hi hl hn rfl (fun ls hl => h p e s m args below meth c H locs ls hB hH (lset_has hl))
theorem wk_istore {i : Nat} {x : Int32} {lo' : List (Nat × Value)} (hd : decode M.2.1 pc = .ok (.istore i, 2)) (hq : pc + 2 = q) (hn : i < M.2.2.1) (hs : lset i (.int x) lo = lo') (h : Wk l E Y M k j q lo' st S) : Wk l E Y M k j pc lo (.int x :: st) S := by
  subst hq
  subst hs
  intro p e s m args below meth c H locs ls hB hH hl
  exact lv_istore hB.1 hB.2.1 hd hl hn rfl (fun ls hl => h p e s m args below meth c H locs ls hB hH (lset_has hl))
theorem wk_astore_n {kk : Fin 4} {i a : Nat} {lo' : List (Nat × Value)} (hd : decode M.2.1 pc = .ok (.astore_n kk, 1)) (hq : pc + 1 = q) (hi : (kk : Nat) = i) (hn : i < M.2.2.1) (hs : lset i (.ref a) lo = lo') (h : Wk l E Y M k j q lo' st S) : Wk l E Y M k j pc lo (.ref a :: st) S := by
  subst hq
  subst hs
  intro p e s m args below meth c H locs ls hB hH hl
  exact lv_astore_n hB.1 hB.2.1 hd hi hl hn rfl (fun ls hl => h p e s m args below meth c H locs ls hB hH (lset_has hl))
theorem wk_astore {i a : Nat} {lo' : List (Nat × Value)} (hd : decode M.2.1 pc = .ok (.astore i, 2)) (hq : pc + 2 = q) (hn : i < M.2.2.1) (hs : lset i (.ref a) lo = lo') (h : Wk l E Y M k j q lo' st S) : Wk l E Y M k j pc lo (.ref a :: st) S := by
  subst hq
  subst hs
  intro p e s m args below meth c H locs ls hB hH hl
  exact lv_astore hB.1 hB.2.1 hd hl hn rfl (fun ls hl => h p e s m args below meth c H locs ls hB hH (lset_has hl))
theorem wk_lstore_n {kk : Fin 4} {i : Nat} {x : Int64} {lo' : List (Nat × Value)} (hd : decode M.2.1 pc = .ok (.lstore_n kk, 1)) (hq : pc + 1 = q) (hi : (kk : Nat) = i) (hn : i + 1 < M.2.2.1) (hs : lset2 i (.long x) lo = lo') (h : Wk l E Y M k j q lo' st S) : Wk l E Y M k j pc lo (.long x :: st) S := by
  subst hq
  subst hs
  intro p e s m args below meth c H locs ls hB hH hl
  exact lv_lstore_n hB.1 hB.2.1 hd hi hl hn rfl (fun ls hl => h p e s m args below meth c H locs ls hB hH (lset2_has hl))
theorem wk_lstore {i : Nat} {x : Int64} {lo' : List (Nat × Value)} (hd : decode M.2.1 pc = .ok (.lstore i, 2)) (hq : pc + 2 = q) (hn : i + 1 < M.2.2.1) (hs : lset2 i (.long x) lo = lo') (h : Wk l E Y M k j q lo' st S) : Wk l E Y M k j pc lo (.long x :: st) S := by
  subst hq
  subst hs
  intro p e s m args below meth c H locs ls hB hH hl
  exact lv_lstore hB.1 hB.2.1 hd hl hn rfl (fun ls hl => h p e s m args below meth c H locs ls hB hH (lset2_has hl))
theorem lget_at : ∀ {lo : List (Nat × Value)} {i : Nat} {v : Value}, lget lo i = some v → ∃ t : Nat, lo[t]? = some (i, v) := fun h => List.getElem?_of_mem (lget_mem h)
theorem wk_iinc {i : Nat} {n x : Int} {lo' : List (Nat × Value)} (hd : decode M.2.1 pc = .ok (.iinc i n, 3)) (hq : pc + 3 = q) (hg : lget lo i = some (.int (zI x))) (hn : i < M.2.2.1) (hs : lset i (.int (zI (x + n))) lo = lo') (h : Wk l E Y M k j q lo' st S) : Wk l E Y M k j pc lo st S := by
  subst hq
  subst hs
  intro p e s m args below meth c H locs ls hB hH hl
  obtain ⟨t, ht⟩ := lget_at hg
  exact lv_iinc (v := zI (x + n)) (k := t) hB.1 hB.2.1 hd hl ht (zI_add x n) hn rfl (fun ls hl => h p e s m args below meth c H locs ls hB hH (lset_has hl))
theorem wk_iadd {a b : Int} (hd : decode M.2.1 pc = .ok (.iadd, 1)) (hq : pc + 1 = q) (h : Wk l E Y M k j q lo (.int (zI (a + b)) :: st) S) : Wk l E Y M k j pc lo (.int (zI b) :: .int (zI a) :: st) S := by
  subst hq
  intro p e s m args below meth c H locs ls hB hH hl
  refine lv_iadd hB.1 hB.2.1 hd ?_
  rw [zI_add]
  exact h p e s m args below meth c H locs ls hB hH hl
theorem wk_isub {a b : Int} (hd : decode M.2.1 pc = .ok (.isub, 1)) (hq : pc + 1 = q) (h : Wk l E Y M k j q lo (.int (zI (a - b)) :: st) S) : Wk l E Y M k j pc lo (.int (zI b) :: .int (zI a) :: st) S := by
  subst hq
  intro p e s m args below meth c H locs ls hB hH hl
  refine lv_isub hB.1 hB.2.1 hd ?_
  rw [zI_sub]
  exact h p e s m args below meth c H locs ls hB hH hl
theorem wk_imul {a b : Int} (hd : decode M.2.1 pc = .ok (.imul, 1)) (hq : pc + 1 = q) (h : Wk l E Y M k j q lo (.int (zI (a * b)) :: st) S) : Wk l E Y M k j pc lo (.int (zI b) :: .int (zI a) :: st) S := by
  subst hq
  intro p e s m args below meth c H locs ls hB hH hl
  refine lv_imul hB.1 hB.2.1 hd ?_
  rw [zI_mul]
  exact h p e s m args below meth c H locs ls hB hH hl
theorem zI_ne0 {b : Int} (hb : 0 < b) (hb2 : b < 2147483648) : ¬ zI b = 0 := fun h => by
  have := (zI_eq (a := b) (b := 0) ⟨by omega, hb2⟩ ⟨by omega, by omega⟩).mp h
  omega
theorem wk_idiv {a b : Int} (hd : decode M.2.1 pc = .ok (.idiv, 1)) (hq : pc + 1 = q) (ha : 0 ≤ a ∧ a < 2147483648) (hb : 0 < b ∧ b < 2147483648) (h : Wk l E Y M k j q lo (.int (zI (a / b)) :: st) S) : Wk l E Y M k j pc lo (.int (zI b) :: .int (zI a) :: st) S := by
  subst hq
  intro p e s m args below meth c H locs ls hB hH hl
  refine lv_idiv hB.1 hB.2.1 hd (zI_ne0 hb.1 hb.2) ?_
  rw [zI_div ha.1 ha.2 hb.1 hb.2]
  exact h p e s m args below meth c H locs ls hB hH hl
theorem wk_irem {a b : Int} (hd : decode M.2.1 pc = .ok (.irem, 1)) (hq : pc + 1 = q) (ha : 0 ≤ a ∧ a < 2147483648) (hb : 0 < b ∧ b < 2147483648) (h : Wk l E Y M k j q lo (.int (zI (a % b)) :: st) S) : Wk l E Y M k j pc lo (.int (zI b) :: .int (zI a) :: st) S := by
  subst hq
  intro p e s m args below meth c H locs ls hB hH hl
  refine lv_irem hB.1 hB.2.1 hd (zI_ne0 hb.1 hb.2) ?_
  rw [zI_rem ha.1 ha.2 hb.1 hb.2]
  exact h p e s m args below meth c H locs ls hB hH hl
theorem zL_ne0 {b : Int} (hb : 0 < b) (hb2 : b < 9223372036854775808) : ¬ zL b = 0 := fun h => by
  have := (zL_eq (a := b) (b := 0) ⟨by omega, hb2⟩ ⟨by omega, by omega⟩).mp h
  omega
theorem wk_ladd {a b : Int} (hd : decode M.2.1 pc = .ok (.ladd, 1)) (hq : pc + 1 = q) (h : Wk l E Y M k j q lo (.long (zL (a + b)) :: st) S) : Wk l E Y M k j pc lo (.long (zL b) :: .long (zL a) :: st) S := by
  subst hq
  intro p e s m args below meth c H locs ls hB hH hl
  refine lv_ladd hB.1 hB.2.1 hd ?_
  rw [zL_add]
  exact h p e s m args below meth c H locs ls hB hH hl
theorem wk_lmul {a b : Int} (hd : decode M.2.1 pc = .ok (.lmul, 1)) (hq : pc + 1 = q) (h : Wk l E Y M k j q lo (.long (zL (a * b)) :: st) S) : Wk l E Y M k j pc lo (.long (zL b) :: .long (zL a) :: st) S := by
  subst hq
  intro p e s m args below meth c H locs ls hB hH hl
  refine lv_lmul hB.1 hB.2.1 hd ?_
  rw [zL_mul]
  exact h p e s m args below meth c H locs ls hB hH hl
theorem wk_ldiv {a b : Int} (hd : decode M.2.1 pc = .ok (.ldiv, 1)) (hq : pc + 1 = q) (ha : 0 ≤ a ∧ a < 9223372036854775808) (hb : 0 < b ∧ b < 9223372036854775808) (h : Wk l E Y M k j q lo (.long (zL (a / b)) :: st) S) : Wk l E Y M k j pc lo (.long (zL b) :: .long (zL a) :: st) S := by
  subst hq
  intro p e s m args below meth c H locs ls hB hH hl
  refine lv_ldiv hB.1 hB.2.1 hd (zL_ne0 hb.1 hb.2) ?_
  rw [zL_div ha.1 ha.2 hb.1 hb.2]
  exact h p e s m args below meth c H locs ls hB hH hl
theorem wk_lrem {a b : Int} (hd : decode M.2.1 pc = .ok (.lrem, 1)) (hq : pc + 1 = q) (ha : 0 ≤ a ∧ a < 9223372036854775808) (hb : 0 < b ∧ b < 9223372036854775808) (h : Wk l E Y M k j q lo (.long (zL (a % b)) :: st) S) : Wk l E Y M k j pc lo (.long (zL b) :: .long (zL a) :: st) S := by
  subst hq
  intro p e s m args below meth c H locs ls hB hH hl
  refine lv_lrem hB.1 hB.2.1 hd (zL_ne0 hb.1 hb.2) ?_
  rw [zL_rem ha.1 ha.2 hb.1 hb.2]
  exact h p e s m args below meth c H locs ls hB hH hl
theorem wk_i2l {a : Int} (hd : decode M.2.1 pc = .ok (.i2l, 1)) (hq : pc + 1 = q) (ha : in32 a) (h : Wk l E Y M k j q lo (.long (zL a) :: st) S) : Wk l E Y M k j pc lo (.int (zI a) :: st) S := by
  subst hq
  intro p e s m args below meth c H locs ls hB hH hl
  exact lv_i2l hB.1 hB.2.1 hd (zIL ha) (h p e s m args below meth c H locs ls hB hH hl)
theorem wk_l2i {a : Int} (hd : decode M.2.1 pc = .ok (.l2i, 1)) (hq : pc + 1 = q) (h : Wk l E Y M k j q lo (.int (zI a) :: st) S) : Wk l E Y M k j pc lo (.long (zL a) :: st) S := by
  subst hq
  intro p e s m args below meth c H locs ls hB hH hl
  exact lv_l2i hB.1 hB.2.1 hd (zLI a) (h p e s m args below meth c H locs ls hB hH hl)
end QR
