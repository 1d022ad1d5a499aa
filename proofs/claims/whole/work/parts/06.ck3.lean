set_option maxRecDepth 1000000 in
theorem xck_15 : (List.range' 182 9).all xck = true := by decide +kernel
set_option maxRecDepth 1000000 in
theorem xck_16 : (List.range' 191 8).all xck = true := by decide +kernel
set_option maxRecDepth 1000000 in
theorem xck_17 : (List.range' 199 6).all xck = true := by decide +kernel
set_option maxRecDepth 1000000 in
theorem xck_18 : (List.range' 205 11).all xck = true := by decide +kernel
set_option maxRecDepth 1000000 in
theorem xck_19 : (List.range' 216 10).all xck = true := by decide +kernel
