/-! WHERE THE OBJECTS LIE: each class by its block of cells, in the order in which its constructor makes them -/
theorem isC.nz {b n : Nat} {sh : qSh} {a kd z : Nat} (h : isC b n sh a kd z) (hb : 0 < b) : a ≠ 0 := by have := h.1; omega
def qTold_c : List (Nat × Nat × Nat) := [(0, 9, 0), (1, 0, 6), (2, 0, 6), (3, 0, 7), (4, 0, 7), (5, 0, 7), (6, 2, 7), (7, 0, 6), (8, 0, 6), (9, 0, 6), (10, 0, 6), (11, 0, 6), (12, 0, 6), (13, 0, 6)]
def qTold_r : List (Nat × Int × Nat) := [(0, 0, 1), (0, 1, 2), (0, 2, 3), (0, 3, 4), (0, 4, 5), (0, 5, 6), (6, 0, 7), (6, 1, 8), (6, 2, 9), (6, 3, 10), (6, 4, 11), (6, 5, 12), (6, 6, 13)]
def qTold (b n : Nat) (sh : qSh) (R : qR) (o : Nat) : Prop := 0 < o ∧ (∀ p ∈ qTold_c, isC b n sh (o + p.1) p.2.1 p.2.2) ∧ ∀ p ∈ qTold_r, R (o + p.1) p.2.1 = o + p.2.2
theorem qTold.ob {b n : Nat} {sh : qSh} {R : qR} {o : Nat} (h : qTold b n sh R o) : isC b n sh o 9 0 := h.2.1 (0, 9, 0) (by decide)
theorem qTold.s0 {b n : Nat} {sh : qSh} {R : qR} {o : Nat} (h : qTold b n sh R o) : isC b n sh (o + 1) 0 6 := h.2.1 (1, 0, 6) (by decide)
theorem qTold.r0 {b n : Nat} {sh : qSh} {R : qR} {o : Nat} (h : qTold b n sh R o) : R o 0 = o + 1 ∧ o + 1 ≠ 0 := ⟨h.2.2 (0, 0, 1) (by decide), by have := h.1; omega⟩
theorem qTold.s1 {b n : Nat} {sh : qSh} {R : qR} {o : Nat} (h : qTold b n sh R o) : isC b n sh (o + 2) 0 6 := h.2.1 (2, 0, 6) (by decide)
theorem qTold.r1 {b n : Nat} {sh : qSh} {R : qR} {o : Nat} (h : qTold b n sh R o) : R o 1 = o + 2 ∧ o + 2 ≠ 0 := ⟨h.2.2 (0, 1, 2) (by decide), by have := h.1; omega⟩
theorem qTold.s2 {b n : Nat} {sh : qSh} {R : qR} {o : Nat} (h : qTold b n sh R o) : isC b n sh (o + 3) 0 7 := h.2.1 (3, 0, 7) (by decide)
theorem qTold.r2 {b n : Nat} {sh : qSh} {R : qR} {o : Nat} (h : qTold b n sh R o) : R o 2 = o + 3 ∧ o + 3 ≠ 0 := ⟨h.2.2 (0, 2, 3) (by decide), by have := h.1; omega⟩
theorem qTold.s3 {b n : Nat} {sh : qSh} {R : qR} {o : Nat} (h : qTold b n sh R o) : isC b n sh (o + 4) 0 7 := h.2.1 (4, 0, 7) (by decide)
theorem qTold.r3 {b n : Nat} {sh : qSh} {R : qR} {o : Nat} (h : qTold b n sh R o) : R o 3 = o + 4 ∧ o + 4 ≠ 0 := ⟨h.2.2 (0, 3, 4) (by decide), by have := h.1; omega⟩
theorem qTold.s4 {b n : Nat} {sh : qSh} {R : qR} {o : Nat} (h : qTold b n sh R o) : isC b n sh (o + 5) 0 7 := h.2.1 (5, 0, 7) (by decide)
theorem qTold.r4 {b n : Nat} {sh : qSh} {R : qR} {o : Nat} (h : qTold b n sh R o) : R o 4 = o + 5 ∧ o + 5 ≠ 0 := ⟨h.2.2 (0, 4, 5) (by decide), by have := h.1; omega⟩
theorem qTold.s5 {b n : Nat} {sh : qSh} {R : qR} {o : Nat} (h : qTold b n sh R o) : isC b n sh (o + 6) 2 7 := h.2.1 (6, 2, 7) (by decide)
theorem qTold.r5 {b n : Nat} {sh : qSh} {R : qR} {o : Nat} (h : qTold b n sh R o) : R o 5 = o + 6 ∧ o + 6 ≠ 0 := ⟨h.2.2 (0, 5, 6) (by decide), by have := h.1; omega⟩
theorem qTold.w5 {b n : Nat} {sh : qSh} {R : qR} {o : Nat} (h : qTold b n sh R o) {i : Int} (hi : 0 ≤ i ∧ i < 7) : R (o + 6) i = o + 7 + i.toNat ∧ o + 7 + i.toNat ≠ 0 := by
  refine ⟨?_, by omega⟩
  rcases (by omega : i = 0 ∨ i = 1 ∨ i = 2 ∨ i = 3 ∨ i = 4 ∨ i = 5 ∨ i = 6) with rfl | rfl | rfl | rfl | rfl | rfl | rfl
  · exact h.2.2 (6, 0, 7) (by decide)
  · exact h.2.2 (6, 1, 8) (by decide)
  · exact h.2.2 (6, 2, 9) (by decide)
  · exact h.2.2 (6, 3, 10) (by decide)
  · exact h.2.2 (6, 4, 11) (by decide)
  · exact h.2.2 (6, 5, 12) (by decide)
  · exact h.2.2 (6, 6, 13) (by decide)
theorem qTold.v5 {b n : Nat} {sh : qSh} {R : qR} {o : Nat} (h : qTold b n sh R o) {i : Int} (hi : 0 ≤ i ∧ i < 7) : isC b n sh (o + 7 + i.toNat) 0 6 := by
  rcases (by omega : i = 0 ∨ i = 1 ∨ i = 2 ∨ i = 3 ∨ i = 4 ∨ i = 5 ∨ i = 6) with rfl | rfl | rfl | rfl | rfl | rfl | rfl
  · exact h.2.1 (7, 0, 6) (by decide)
  · exact h.2.1 (8, 0, 6) (by decide)
  · exact h.2.1 (9, 0, 6) (by decide)
  · exact h.2.1 (10, 0, 6) (by decide)
  · exact h.2.1 (11, 0, 6) (by decide)
  · exact h.2.1 (12, 0, 6) (by decide)
  · exact h.2.1 (13, 0, 6) (by decide)
def qTabS_c : List (Nat × Nat × Nat) := [(0, 8, 0), (15, 0, 7), (16, 0, 7), (17, 0, 7), (18, 2, 7), (19, 0, 6), (20, 0, 6), (21, 0, 6), (22, 0, 6), (23, 0, 6), (24, 0, 6), (25, 0, 6), (26, 0, 6), (27, 2, 8), (28, 0, 7), (29, 0, 7), (30, 0, 7), (31, 0, 7), (32, 0, 7), (33, 0, 7), (34, 0, 7), (35, 0, 7), (36, 0, 7), (37, 0, 7)]
def qTabS_r : List (Nat × Int × Nat) := [(0, 1, 15), (0, 2, 16), (0, 3, 17), (0, 4, 18), (18, 0, 19), (18, 1, 20), (18, 2, 21), (18, 3, 22), (18, 4, 23), (18, 5, 24), (18, 6, 25), (0, 9, 26), (0, 10, 27), (27, 0, 28), (27, 1, 29), (27, 2, 30), (27, 3, 31), (27, 4, 32), (27, 5, 33), (27, 6, 34), (27, 7, 35), (0, 11, 36), (0, 12, 37)]
def qTabS (b n : Nat) (sh : qSh) (R : qR) (o : Nat) : Prop := 0 < o ∧ (∀ p ∈ qTabS_c, isC b n sh (o + p.1) p.2.1 p.2.2) ∧ ∀ p ∈ qTabS_r, R (o + p.1) p.2.1 = o + p.2.2
theorem qTabS.ob {b n : Nat} {sh : qSh} {R : qR} {o : Nat} (h : qTabS b n sh R o) : isC b n sh o 8 0 := h.2.1 (0, 8, 0) (by decide)
theorem qTabS.s1 {b n : Nat} {sh : qSh} {R : qR} {o : Nat} (h : qTabS b n sh R o) : isC b n sh (o + 15) 0 7 := h.2.1 (15, 0, 7) (by decide)
theorem qTabS.r1 {b n : Nat} {sh : qSh} {R : qR} {o : Nat} (h : qTabS b n sh R o) : R o 1 = o + 15 ∧ o + 15 ≠ 0 := ⟨h.2.2 (0, 1, 15) (by decide), by have := h.1; omega⟩
theorem qTabS.s2 {b n : Nat} {sh : qSh} {R : qR} {o : Nat} (h : qTabS b n sh R o) : isC b n sh (o + 16) 0 7 := h.2.1 (16, 0, 7) (by decide)
theorem qTabS.r2 {b n : Nat} {sh : qSh} {R : qR} {o : Nat} (h : qTabS b n sh R o) : R o 2 = o + 16 ∧ o + 16 ≠ 0 := ⟨h.2.2 (0, 2, 16) (by decide), by have := h.1; omega⟩
theorem qTabS.s3 {b n : Nat} {sh : qSh} {R : qR} {o : Nat} (h : qTabS b n sh R o) : isC b n sh (o + 17) 0 7 := h.2.1 (17, 0, 7) (by decide)
theorem qTabS.r3 {b n : Nat} {sh : qSh} {R : qR} {o : Nat} (h : qTabS b n sh R o) : R o 3 = o + 17 ∧ o + 17 ≠ 0 := ⟨h.2.2 (0, 3, 17) (by decide), by have := h.1; omega⟩
theorem qTabS.s4 {b n : Nat} {sh : qSh} {R : qR} {o : Nat} (h : qTabS b n sh R o) : isC b n sh (o + 18) 2 7 := h.2.1 (18, 2, 7) (by decide)
theorem qTabS.r4 {b n : Nat} {sh : qSh} {R : qR} {o : Nat} (h : qTabS b n sh R o) : R o 4 = o + 18 ∧ o + 18 ≠ 0 := ⟨h.2.2 (0, 4, 18) (by decide), by have := h.1; omega⟩
theorem qTabS.w4 {b n : Nat} {sh : qSh} {R : qR} {o : Nat} (h : qTabS b n sh R o) {i : Int} (hi : 0 ≤ i ∧ i < 7) : R (o + 18) i = o + 19 + i.toNat ∧ o + 19 + i.toNat ≠ 0 := by
  refine ⟨?_, by omega⟩
  rcases (by omega : i = 0 ∨ i = 1 ∨ i = 2 ∨ i = 3 ∨ i = 4 ∨ i = 5 ∨ i = 6) with rfl | rfl | rfl | rfl | rfl | rfl | rfl
  · exact h.2.2 (18, 0, 19) (by decide)
  · exact h.2.2 (18, 1, 20) (by decide)
  · exact h.2.2 (18, 2, 21) (by decide)
  · exact h.2.2 (18, 3, 22) (by decide)
  · exact h.2.2 (18, 4, 23) (by decide)
  · exact h.2.2 (18, 5, 24) (by decide)
  · exact h.2.2 (18, 6, 25) (by decide)
theorem qTabS.v4 {b n : Nat} {sh : qSh} {R : qR} {o : Nat} (h : qTabS b n sh R o) {i : Int} (hi : 0 ≤ i ∧ i < 7) : isC b n sh (o + 19 + i.toNat) 0 6 := by
  rcases (by omega : i = 0 ∨ i = 1 ∨ i = 2 ∨ i = 3 ∨ i = 4 ∨ i = 5 ∨ i = 6) with rfl | rfl | rfl | rfl | rfl | rfl | rfl
  · exact h.2.1 (19, 0, 6) (by decide)
  · exact h.2.1 (20, 0, 6) (by decide)
  · exact h.2.1 (21, 0, 6) (by decide)
  · exact h.2.1 (22, 0, 6) (by decide)
  · exact h.2.1 (23, 0, 6) (by decide)
  · exact h.2.1 (24, 0, 6) (by decide)
  · exact h.2.1 (25, 0, 6) (by decide)
theorem qTabS.s9 {b n : Nat} {sh : qSh} {R : qR} {o : Nat} (h : qTabS b n sh R o) : isC b n sh (o + 26) 0 6 := h.2.1 (26, 0, 6) (by decide)
theorem qTabS.r9 {b n : Nat} {sh : qSh} {R : qR} {o : Nat} (h : qTabS b n sh R o) : R o 9 = o + 26 ∧ o + 26 ≠ 0 := ⟨h.2.2 (0, 9, 26) (by decide), by have := h.1; omega⟩
theorem qTabS.s10 {b n : Nat} {sh : qSh} {R : qR} {o : Nat} (h : qTabS b n sh R o) : isC b n sh (o + 27) 2 8 := h.2.1 (27, 2, 8) (by decide)
theorem qTabS.r10 {b n : Nat} {sh : qSh} {R : qR} {o : Nat} (h : qTabS b n sh R o) : R o 10 = o + 27 ∧ o + 27 ≠ 0 := ⟨h.2.2 (0, 10, 27) (by decide), by have := h.1; omega⟩
theorem qTabS.w10 {b n : Nat} {sh : qSh} {R : qR} {o : Nat} (h : qTabS b n sh R o) {i : Int} (hi : 0 ≤ i ∧ i < 8) : R (o + 27) i = o + 28 + i.toNat ∧ o + 28 + i.toNat ≠ 0 := by
  refine ⟨?_, by omega⟩
  rcases (by omega : i = 0 ∨ i = 1 ∨ i = 2 ∨ i = 3 ∨ i = 4 ∨ i = 5 ∨ i = 6 ∨ i = 7) with rfl | rfl | rfl | rfl | rfl | rfl | rfl | rfl
  · exact h.2.2 (27, 0, 28) (by decide)
  · exact h.2.2 (27, 1, 29) (by decide)
  · exact h.2.2 (27, 2, 30) (by decide)
  · exact h.2.2 (27, 3, 31) (by decide)
  · exact h.2.2 (27, 4, 32) (by decide)
  · exact h.2.2 (27, 5, 33) (by decide)
  · exact h.2.2 (27, 6, 34) (by decide)
  · exact h.2.2 (27, 7, 35) (by decide)
theorem qTabS.v10 {b n : Nat} {sh : qSh} {R : qR} {o : Nat} (h : qTabS b n sh R o) {i : Int} (hi : 0 ≤ i ∧ i < 8) : isC b n sh (o + 28 + i.toNat) 0 7 := by
  rcases (by omega : i = 0 ∨ i = 1 ∨ i = 2 ∨ i = 3 ∨ i = 4 ∨ i = 5 ∨ i = 6 ∨ i = 7) with rfl | rfl | rfl | rfl | rfl | rfl | rfl | rfl
  · exact h.2.1 (28, 0, 7) (by decide)
  · exact h.2.1 (29, 0, 7) (by decide)
  · exact h.2.1 (30, 0, 7) (by decide)
  · exact h.2.1 (31, 0, 7) (by decide)
  · exact h.2.1 (32, 0, 7) (by decide)
  · exact h.2.1 (33, 0, 7) (by decide)
  · exact h.2.1 (34, 0, 7) (by decide)
  · exact h.2.1 (35, 0, 7) (by decide)
theorem qTabS.s11 {b n : Nat} {sh : qSh} {R : qR} {o : Nat} (h : qTabS b n sh R o) : isC b n sh (o + 36) 0 7 := h.2.1 (36, 0, 7) (by decide)
theorem qTabS.r11 {b n : Nat} {sh : qSh} {R : qR} {o : Nat} (h : qTabS b n sh R o) : R o 11 = o + 36 ∧ o + 36 ≠ 0 := ⟨h.2.2 (0, 11, 36) (by decide), by have := h.1; omega⟩
theorem qTabS.s12 {b n : Nat} {sh : qSh} {R : qR} {o : Nat} (h : qTabS b n sh R o) : isC b n sh (o + 37) 0 7 := h.2.1 (37, 0, 7) (by decide)
theorem qTabS.r12 {b n : Nat} {sh : qSh} {R : qR} {o : Nat} (h : qTabS b n sh R o) : R o 12 = o + 37 ∧ o + 37 ≠ 0 := ⟨h.2.2 (0, 12, 37) (by decide), by have := h.1; omega⟩
def qEver_c : List (Nat × Nat × Nat) := [(0, 5, 0), (1, 0, 7), (2, 0, 201)]
def qEver_r : List (Nat × Int × Nat) := [(0, 0, 1), (0, 1, 2)]
def qEver (b n : Nat) (sh : qSh) (R : qR) (o : Nat) : Prop := 0 < o ∧ (∀ p ∈ qEver_c, isC b n sh (o + p.1) p.2.1 p.2.2) ∧ ∀ p ∈ qEver_r, R (o + p.1) p.2.1 = o + p.2.2
theorem qEver.ob {b n : Nat} {sh : qSh} {R : qR} {o : Nat} (h : qEver b n sh R o) : isC b n sh o 5 0 := h.2.1 (0, 5, 0) (by decide)
theorem qEver.s0 {b n : Nat} {sh : qSh} {R : qR} {o : Nat} (h : qEver b n sh R o) : isC b n sh (o + 1) 0 7 := h.2.1 (1, 0, 7) (by decide)
theorem qEver.r0 {b n : Nat} {sh : qSh} {R : qR} {o : Nat} (h : qEver b n sh R o) : R o 0 = o + 1 ∧ o + 1 ≠ 0 := ⟨h.2.2 (0, 0, 1) (by decide), by have := h.1; omega⟩
theorem qEver.s1 {b n : Nat} {sh : qSh} {R : qR} {o : Nat} (h : qEver b n sh R o) : isC b n sh (o + 2) 0 201 := h.2.1 (2, 0, 201) (by decide)
theorem qEver.r1 {b n : Nat} {sh : qSh} {R : qR} {o : Nat} (h : qEver b n sh R o) : R o 1 = o + 2 ∧ o + 2 ≠ 0 := ⟨h.2.2 (0, 1, 2) (by decide), by have := h.1; omega⟩
def qBest_c : List (Nat × Nat × Nat) := [(0, 4, 0), (1, 1, 128), (2, 1, 7), (3, 0, 7)]
def qBest_r : List (Nat × Int × Nat) := [(0, 1, 1), (0, 2, 2), (0, 3, 3)]
def qBest (b n : Nat) (sh : qSh) (R : qR) (o : Nat) : Prop := 0 < o ∧ (∀ p ∈ qBest_c, isC b n sh (o + p.1) p.2.1 p.2.2) ∧ ∀ p ∈ qBest_r, R (o + p.1) p.2.1 = o + p.2.2
theorem qBest.ob {b n : Nat} {sh : qSh} {R : qR} {o : Nat} (h : qBest b n sh R o) : isC b n sh o 4 0 := h.2.1 (0, 4, 0) (by decide)
theorem qBest.s1 {b n : Nat} {sh : qSh} {R : qR} {o : Nat} (h : qBest b n sh R o) : isC b n sh (o + 1) 1 128 := h.2.1 (1, 1, 128) (by decide)
theorem qBest.r1 {b n : Nat} {sh : qSh} {R : qR} {o : Nat} (h : qBest b n sh R o) : R o 1 = o + 1 ∧ o + 1 ≠ 0 := ⟨h.2.2 (0, 1, 1) (by decide), by have := h.1; omega⟩
theorem qBest.s2 {b n : Nat} {sh : qSh} {R : qR} {o : Nat} (h : qBest b n sh R o) : isC b n sh (o + 2) 1 7 := h.2.1 (2, 1, 7) (by decide)
theorem qBest.r2 {b n : Nat} {sh : qSh} {R : qR} {o : Nat} (h : qBest b n sh R o) : R o 2 = o + 2 ∧ o + 2 ≠ 0 := ⟨h.2.2 (0, 2, 2) (by decide), by have := h.1; omega⟩
theorem qBest.s3 {b n : Nat} {sh : qSh} {R : qR} {o : Nat} (h : qBest b n sh R o) : isC b n sh (o + 3) 0 7 := h.2.1 (3, 0, 7) (by decide)
theorem qBest.r3 {b n : Nat} {sh : qSh} {R : qR} {o : Nat} (h : qBest b n sh R o) : R o 3 = o + 3 ∧ o + 3 ≠ 0 := ⟨h.2.2 (0, 3, 3) (by decide), by have := h.1; omega⟩
def qSeat_c : List (Nat × Nat × Nat) := [(0, 6, 0), (1, 0, 2), (2, 2, 2), (3, 0, 7), (4, 0, 7)]
def qSeat_r : List (Nat × Int × Nat) := [(0, 1, 1), (0, 2, 2), (2, 0, 3), (2, 1, 4)]
def qSeat (b n : Nat) (sh : qSh) (R : qR) (o : Nat) : Prop := 0 < o ∧ (∀ p ∈ qSeat_c, isC b n sh (o + p.1) p.2.1 p.2.2) ∧ ∀ p ∈ qSeat_r, R (o + p.1) p.2.1 = o + p.2.2
theorem qSeat.ob {b n : Nat} {sh : qSh} {R : qR} {o : Nat} (h : qSeat b n sh R o) : isC b n sh o 6 0 := h.2.1 (0, 6, 0) (by decide)
theorem qSeat.s1 {b n : Nat} {sh : qSh} {R : qR} {o : Nat} (h : qSeat b n sh R o) : isC b n sh (o + 1) 0 2 := h.2.1 (1, 0, 2) (by decide)
theorem qSeat.r1 {b n : Nat} {sh : qSh} {R : qR} {o : Nat} (h : qSeat b n sh R o) : R o 1 = o + 1 ∧ o + 1 ≠ 0 := ⟨h.2.2 (0, 1, 1) (by decide), by have := h.1; omega⟩
theorem qSeat.s2 {b n : Nat} {sh : qSh} {R : qR} {o : Nat} (h : qSeat b n sh R o) : isC b n sh (o + 2) 2 2 := h.2.1 (2, 2, 2) (by decide)
theorem qSeat.r2 {b n : Nat} {sh : qSh} {R : qR} {o : Nat} (h : qSeat b n sh R o) : R o 2 = o + 2 ∧ o + 2 ≠ 0 := ⟨h.2.2 (0, 2, 2) (by decide), by have := h.1; omega⟩
theorem qSeat.w2 {b n : Nat} {sh : qSh} {R : qR} {o : Nat} (h : qSeat b n sh R o) {i : Int} (hi : 0 ≤ i ∧ i < 2) : R (o + 2) i = o + 3 + i.toNat ∧ o + 3 + i.toNat ≠ 0 := by
  refine ⟨?_, by omega⟩
  rcases (by omega : i = 0 ∨ i = 1) with rfl | rfl
  · exact h.2.2 (2, 0, 3) (by decide)
  · exact h.2.2 (2, 1, 4) (by decide)
theorem qSeat.v2 {b n : Nat} {sh : qSh} {R : qR} {o : Nat} (h : qSeat b n sh R o) {i : Int} (hi : 0 ≤ i ∧ i < 2) : isC b n sh (o + 3 + i.toNat) 0 7 := by
  rcases (by omega : i = 0 ∨ i = 1) with rfl | rfl
  · exact h.2.1 (3, 0, 7) (by decide)
  · exact h.2.1 (4, 0, 7) (by decide)
def qSheet_c : List (Nat × Nat × Nat) := [(0, 7, 0), (1, 0, 100)]
def qSheet_r : List (Nat × Int × Nat) := [(0, 0, 1)]
def qSheet (b n : Nat) (sh : qSh) (R : qR) (o : Nat) : Prop := 0 < o ∧ (∀ p ∈ qSheet_c, isC b n sh (o + p.1) p.2.1 p.2.2) ∧ ∀ p ∈ qSheet_r, R (o + p.1) p.2.1 = o + p.2.2
theorem qSheet.ob {b n : Nat} {sh : qSh} {R : qR} {o : Nat} (h : qSheet b n sh R o) : isC b n sh o 7 0 := h.2.1 (0, 7, 0) (by decide)
theorem qSheet.s0 {b n : Nat} {sh : qSh} {R : qR} {o : Nat} (h : qSheet b n sh R o) : isC b n sh (o + 1) 0 100 := h.2.1 (1, 0, 100) (by decide)
theorem qSheet.r0 {b n : Nat} {sh : qSh} {R : qR} {o : Nat} (h : qSheet b n sh R o) : R o 0 = o + 1 ∧ o + 1 ≠ 0 := ⟨h.2.2 (0, 0, 1) (by decide), by have := h.1; omega⟩
/-- a table, its text's -/
def qTab (b n : Nat) (sh : qSh) (R : qR) (t o : Nat) : Prop := qTabS b n sh R t ∧ (R t 0 = o ∧ o ≠ 0) ∧ qTold b n sh R o
/-- the object: its text (o), its draft (d), the texts of now, trial, twin -/
def qRA (b n : Nat) (sh : qSh) (R : qR) (x o d u1 u2 u3 : Nat) : Prop := 0 < x ∧ isC b n sh x 10 0 ∧ isC b n sh (x + 1) 3 4 ∧ R x 0 = x + 1 ∧ (R x 1 = o ∧ o ≠ 0) ∧ qTold b n sh R o ∧ (R x 2 = d ∧ d ≠ 0) ∧ qTold b n sh R d ∧ R x 3 = x + 30 ∧ qTab b n sh R (x + 30) u1 ∧ R x 4 = x + 68 ∧ qTab b n sh R (x + 68) u2 ∧ R x 5 = x + 106 ∧ qTab b n sh R (x + 106) u3 ∧
  R x 6 = x + 144 ∧ qEver b n sh R (x + 144) ∧ R x 7 = x + 147 ∧ qEver b n sh R (x + 147) ∧ R x 8 = x + 150 ∧ qBest b n sh R (x + 150) ∧ R x 9 = x + 154 ∧ qSeat b n sh R (x + 154) ∧
  (∀ i : Int, 0 ≤ i ∧ i < 4 → R (x + 1) i = x + 159 + 2 * i.toNat ∧ qSheet b n sh R (x + 159 + 2 * i.toNat))
section LAYRA
variable {b n : Nat} {sh : qSh} {R : qR} {x o d u1 u2 u3 : Nat} (h : qRA b n sh R x o d u1 u2 u3)
theorem qRA.ob (h : qRA b n sh R x o d u1 u2 u3) : isC b n sh x 10 0 := h.2.1
theorem qRA.s0 (h : qRA b n sh R x o d u1 u2 u3) : isC b n sh (x + 1) 3 4 := h.2.2.1
theorem qRA.r0 (h : qRA b n sh R x o d u1 u2 u3) : R x 0 = x + 1 ∧ x + 1 ≠ 0 := ⟨h.2.2.2.1, by omega⟩
theorem qRA.r1 (h : qRA b n sh R x o d u1 u2 u3) : R x 1 = o ∧ o ≠ 0 := h.2.2.2.2.1
theorem qRA.o1 (h : qRA b n sh R x o d u1 u2 u3) : qTold b n sh R o := h.2.2.2.2.2.1
theorem qRA.r2 (h : qRA b n sh R x o d u1 u2 u3) : R x 2 = d ∧ d ≠ 0 := h.2.2.2.2.2.2.1
theorem qRA.o2 (h : qRA b n sh R x o d u1 u2 u3) : qTold b n sh R d := h.2.2.2.2.2.2.2.1
theorem qRA.r3 (h : qRA b n sh R x o d u1 u2 u3) : R x 3 = x + 30 ∧ x + 30 ≠ 0 := ⟨h.2.2.2.2.2.2.2.2.1, by omega⟩
theorem qRA.t3 (h : qRA b n sh R x o d u1 u2 u3) : qTab b n sh R (x + 30) u1 := h.2.2.2.2.2.2.2.2.2.1
theorem qRA.r4 (h : qRA b n sh R x o d u1 u2 u3) : R x 4 = x + 68 ∧ x + 68 ≠ 0 := ⟨h.2.2.2.2.2.2.2.2.2.2.1, by omega⟩
theorem qRA.t4 (h : qRA b n sh R x o d u1 u2 u3) : qTab b n sh R (x + 68) u2 := h.2.2.2.2.2.2.2.2.2.2.2.1
theorem qRA.r5 (h : qRA b n sh R x o d u1 u2 u3) : R x 5 = x + 106 ∧ x + 106 ≠ 0 := ⟨h.2.2.2.2.2.2.2.2.2.2.2.2.1, by omega⟩
theorem qRA.t5 (h : qRA b n sh R x o d u1 u2 u3) : qTab b n sh R (x + 106) u3 := h.2.2.2.2.2.2.2.2.2.2.2.2.2.1
theorem qRA.r6 (h : qRA b n sh R x o d u1 u2 u3) : R x 6 = x + 144 ∧ x + 144 ≠ 0 := ⟨h.2.2.2.2.2.2.2.2.2.2.2.2.2.2.1, by omega⟩
theorem qRA.o6 (h : qRA b n sh R x o d u1 u2 u3) : qEver b n sh R (x + 144) := h.2.2.2.2.2.2.2.2.2.2.2.2.2.2.2.1
theorem qRA.r7 (h : qRA b n sh R x o d u1 u2 u3) : R x 7 = x + 147 ∧ x + 147 ≠ 0 := ⟨h.2.2.2.2.2.2.2.2.2.2.2.2.2.2.2.2.1, by omega⟩
theorem qRA.o7 (h : qRA b n sh R x o d u1 u2 u3) : qEver b n sh R (x + 147) := h.2.2.2.2.2.2.2.2.2.2.2.2.2.2.2.2.2.1
theorem qRA.r8 (h : qRA b n sh R x o d u1 u2 u3) : R x 8 = x + 150 ∧ x + 150 ≠ 0 := ⟨h.2.2.2.2.2.2.2.2.2.2.2.2.2.2.2.2.2.2.1, by omega⟩
theorem qRA.o8 (h : qRA b n sh R x o d u1 u2 u3) : qBest b n sh R (x + 150) := h.2.2.2.2.2.2.2.2.2.2.2.2.2.2.2.2.2.2.2.1
theorem qRA.r9 (h : qRA b n sh R x o d u1 u2 u3) : R x 9 = x + 154 ∧ x + 154 ≠ 0 := ⟨h.2.2.2.2.2.2.2.2.2.2.2.2.2.2.2.2.2.2.2.2.1, by omega⟩
theorem qRA.o9 (h : qRA b n sh R x o d u1 u2 u3) : qSeat b n sh R (x + 154) := h.2.2.2.2.2.2.2.2.2.2.2.2.2.2.2.2.2.2.2.2.2.1
theorem qRA.w0 (h : qRA b n sh R x o d u1 u2 u3) {i : Int} (hi : 0 ≤ i ∧ i < 4) : R (x + 1) i = x + 159 + 2 * i.toNat ∧ x + 159 + 2 * i.toNat ≠ 0 := ⟨(h.2.2.2.2.2.2.2.2.2.2.2.2.2.2.2.2.2.2.2.2.2.2 i hi).1, by omega⟩
theorem qRA.e0 (h : qRA b n sh R x o d u1 u2 u3) {i : Int} (hi : 0 ≤ i ∧ i < 4) : qSheet b n sh R (x + 159 + 2 * i.toNat) := (h.2.2.2.2.2.2.2.2.2.2.2.2.2.2.2.2.2.2.2.2.2.2 i hi).2
end LAYRA
