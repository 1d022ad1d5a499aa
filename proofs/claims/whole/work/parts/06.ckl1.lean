set_option maxRecDepth 1000000 in
theorem xckL_4 : xckr 284 320 80 = true := by decide +kernel
set_option maxRecDepth 1000000 in
theorem xckL_5 : xckr 284 400 80 = true := by decide +kernel
set_option maxRecDepth 1000000 in
theorem xckL_6 : xckr 284 480 80 = true := by decide +kernel
set_option maxRecDepth 1000000 in
theorem xckL_7 : xckr 284 560 80 = true := by decide +kernel
