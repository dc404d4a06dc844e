/-! THE LAW'S BEGINNING: the ints of the first ditches -/
set_option maxRecDepth 16384 in
theorem run0_S0 : chkS 0 95 run0 = true := by decide +kernel
set_option maxRecDepth 16384 in
theorem run0_S1 : chkS 95 95 run0 = true := by decide +kernel
