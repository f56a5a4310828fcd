/-! SEATS, its math: the next row; all rows in their order -/
def rowF (p : List Int) : Int → Int := fun s => p.getD s.toNat 0
/-- the last place that may grow, from place i down -/
def nxi (f : Int → Int) : Nat → Nat
  | 0 => 0
  | i + 1 => if f ((i : Int) + 1) > f ((i : Int) + 1 + 1) then nxi f i else i + 1
/-- whom it grows to: from d places behind the one behind i down -/
def nxj (f : Int → Int) (i : Nat) : Nat → Nat
  | 0 => i + 1
  | d + 1 => if f ((i + 1 + (d + 1) : Nat) : Int) < f (i : Int) then nxj f i d else i + 1 + (d + 1)
def exF (f : Int → Int) (i j : Int) : Int → Int := fun s => if s = j then f i else if s = i then f j else f s
/-- what lies from a to b is turned -/
def rvF : Nat → (Int → Int) → Nat → Nat → Int → Int
  | 0, f, _, _ => f
  | k + 1, f, a, b => if a < b then rvF k (exF f a b) (a + 1) (b - 1) else f
def nxF (f : Int → Int) (n : Nat) : Int → Int := rvF 7 (exF f (nxi f (n - 2)) (nxj f (nxi f (n - 2)) (n - 2 - nxi f (n - 2)))) (nxi f (n - 2) + 1) (n - 1)
def nxL (n : Nat) (p : List Int) : Option (List Int) := if nxi (rowF p) (n - 2) = 0 then none else some ((List.range n).map (fun k : Nat => nxF (rowF p) n (k : Int)))
def chn (n : Nat) : List (List Int) → Bool
  | [] => true
  | p :: r => (match r with
    | [] => nxL n p == none
    | q :: _ => nxL n p == some q) && chn n r
def pokB (n : Nat) (p : List Int) : Bool := p.length == n && (List.range n).all (fun i => decide (0 ≤ p.getD i 0) && decide (p.getD i 0 < (n : Int)) && (List.range n).all (fun j => i == j || !(p.getD i 0 == p.getD j 0)))
def rowsB (n : Nat) : Bool := chn n (rowsN n) && (rowsN n).all (pokB n) && decide ((rowsN n).length ≤ 720) && (rowsN n).head? == some ((List.range n).map (fun k : Nat => (k : Int)))
theorem rows_2 : rowsB 2 = true := by decide +kernel
theorem rows_3 : rowsB 3 = true := by decide +kernel
theorem rows_4 : rowsB 4 = true := by decide +kernel
theorem rows_5 : rowsB 5 = true := by decide +kernel
theorem rows_6 : rowsB 6 = true := by decide +kernel
theorem rows_7 : rowsB 7 = true := by decide +kernel
