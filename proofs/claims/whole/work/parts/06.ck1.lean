set_option maxRecDepth 1000000 in
theorem xck_5 : (List.range' 63 8).all xck = true := by decide +kernel
set_option maxRecDepth 1000000 in
theorem xck_6 : (List.range' 71 13).all xck = true := by decide +kernel
set_option maxRecDepth 1000000 in
theorem xck_7 : (List.range' 84 14).all xck = true := by decide +kernel
set_option maxRecDepth 1000000 in
theorem xck_8 : (List.range' 98 24).all xck = true := by decide +kernel
set_option maxRecDepth 1000000 in
theorem xck_9 : (List.range' 122 18).all xck = true := by decide +kernel
