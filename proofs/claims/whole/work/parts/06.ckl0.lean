def xckr (y lo n : Nat) : Bool := (List.range' lo n).all fun pc => xisb (xop y pc) || xok y pc (xop y pc)
set_option maxRecDepth 1000000 in
theorem xckL_0 : xckr 284 0 80 = true := by decide +kernel
set_option maxRecDepth 1000000 in
theorem xckL_1 : xckr 284 80 80 = true := by decide +kernel
set_option maxRecDepth 1000000 in
theorem xckL_2 : xckr 284 160 80 = true := by decide +kernel
set_option maxRecDepth 1000000 in
theorem xckL_3 : xckr 284 240 80 = true := by decide +kernel
