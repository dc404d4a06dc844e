/-! THE LAW'S BEGINNING: the ints of the others -/
set_option maxRecDepth 16384 in
theorem run0_S2 : chkS 190 95 run0 = true := by decide +kernel
set_option maxRecDepth 16384 in
theorem run0_S3 : chkS 285 84 run0 = true := by decide +kernel
set_option maxRecDepth 16384 in
theorem run0_S4 : chkS 369 10 run0 = true := by decide +kernel
