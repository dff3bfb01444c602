/-! meanings -/
def inB (v a b : Int32) : Bool := decide (a ≤ v) && decide (v ≤ b)
abbrev EX : Type := (Nat → Int32 → Int32) → Int32
