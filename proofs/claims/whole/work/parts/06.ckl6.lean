set_option maxRecDepth 1000000 in
theorem xckL_24 : xckr 284 1920 80 = true := by decide +kernel
set_option maxRecDepth 1000000 in
theorem xckL_25 : xckr 284 2000 80 = true := by decide +kernel
set_option maxRecDepth 1000000 in
theorem xckL_26 : xckr 284 2080 3 = true := by decide +kernel
