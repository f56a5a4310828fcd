/-! leaves: its math; the class's -/
def p2 (g : Int) : Int := ((2 ^ g.toNat : Nat) : Int)
