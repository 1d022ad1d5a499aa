set_option maxRecDepth 1000000 in
theorem xckL_12 : xckr 284 960 80 = true := by decide +kernel
set_option maxRecDepth 1000000 in
theorem xckL_13 : xckr 284 1040 80 = true := by decide +kernel
set_option maxRecDepth 1000000 in
theorem xckL_14 : xckr 284 1120 80 = true := by decide +kernel
set_option maxRecDepth 1000000 in
theorem xckL_15 : xckr 284 1200 80 = true := by decide +kernel
