set_option maxRecDepth 1000000 in
theorem xck_20 : (List.range' 226 11).all xck = true := by decide +kernel
set_option maxRecDepth 1000000 in
theorem xck_21 : (List.range' 237 12).all xck = true := by decide +kernel
set_option maxRecDepth 1000000 in
theorem xck_22 : (List.range' 249 13).all xck = true := by decide +kernel
set_option maxRecDepth 1000000 in
theorem xck_23 : (List.range' 262 22).all xck = true := by decide +kernel
