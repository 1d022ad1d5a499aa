set_option maxRecDepth 1000000 in
theorem xck_0 : (List.range' 0 16).all xck = true := by decide +kernel
set_option maxRecDepth 1000000 in
theorem xck_1 : (List.range' 16 10).all xck = true := by decide +kernel
set_option maxRecDepth 1000000 in
theorem xck_2 : (List.range' 26 9).all xck = true := by decide +kernel
set_option maxRecDepth 1000000 in
theorem xck_3 : (List.range' 35 12).all xck = true := by decide +kernel
set_option maxRecDepth 1000000 in
theorem xck_4 : (List.range' 47 16).all xck = true := by decide +kernel
