set_option maxRecDepth 1000000 in
theorem xckL_8 : xckr 284 640 80 = true := by decide +kernel
set_option maxRecDepth 1000000 in
theorem xckL_9 : xckr 284 720 80 = true := by decide +kernel
set_option maxRecDepth 1000000 in
theorem xckL_10 : xckr 284 800 80 = true := by decide +kernel
set_option maxRecDepth 1000000 in
theorem xckL_11 : xckr 284 880 80 = true := by decide +kernel
