/-! THE PURE MACHINE's TYPES -/
/-- what lies at a place: an object of class number c (.inl c), or an array (.inr (kind, length); kinds 0 int, 1 long, 2 int[], 3 long[]) -/
abbrev xSh : Type := Nat ⊕ (Nat × Nat)
/-- ((cells made, slots made), (script's length, script)), (places, what lies there), ints, longs, references -/
abbrev xSt : Type := ((Nat × Nat) × (Nat × (Nat → Int32))) × (Nat × (Nat → xSh)) × (Nat → Nat → Int32) × (Nat → Nat → Int64) × (Nat → Nat → Option Nat)
abbrev xLo : Type := List (Option Value)
abbrev xRes : Type := (Option Value ⊕ Nat) × xSt
/-- instruction, its length, three numbers (a, b, c), a constant, cases of a switch or handlers -/
abbrev xOp : Type := Instr × Nat × Nat × Nat × Nat × Value × List (Int32 × Nat)
