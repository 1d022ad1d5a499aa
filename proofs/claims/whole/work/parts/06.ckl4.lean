set_option maxRecDepth 1000000 in
theorem xckL_16 : xckr 284 1280 80 = true := by decide +kernel
set_option maxRecDepth 1000000 in
theorem xckL_17 : xckr 284 1360 80 = true := by decide +kernel
set_option maxRecDepth 1000000 in
theorem xckL_18 : xckr 284 1440 80 = true := by decide +kernel
set_option maxRecDepth 1000000 in
theorem xckL_19 : xckr 284 1520 80 = true := by decide +kernel
