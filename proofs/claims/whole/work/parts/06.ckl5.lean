set_option maxRecDepth 1000000 in
theorem xckL_20 : xckr 284 1600 80 = true := by decide +kernel
set_option maxRecDepth 1000000 in
theorem xckL_21 : xckr 284 1680 80 = true := by decide +kernel
set_option maxRecDepth 1000000 in
theorem xckL_22 : xckr 284 1760 80 = true := by decide +kernel
set_option maxRecDepth 1000000 in
theorem xckL_23 : xckr 284 1840 80 = true := by decide +kernel
