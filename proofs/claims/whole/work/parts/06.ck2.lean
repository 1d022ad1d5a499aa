set_option maxRecDepth 1000000 in
theorem xck_10 : (List.range' 140 7).all xck = true := by decide +kernel
set_option maxRecDepth 1000000 in
theorem xck_11 : (List.range' 147 9).all xck = true := by decide +kernel
set_option maxRecDepth 1000000 in
theorem xck_12 : (List.range' 156 11).all xck = true := by decide +kernel
set_option maxRecDepth 1000000 in
theorem xck_13 : (List.range' 167 9).all xck = true := by decide +kernel
set_option maxRecDepth 1000000 in
theorem xck_14 : (List.range' 176 6).all xck = true := by decide +kernel
