/-! loads: the boxes -/
set_option maxRecDepth 100000 in
theorem wx_l0_000 : wx_lall 0 0 0 0 = true := by decide +kernel
set_option maxRecDepth 100000 in
theorem wx_l0_001 : wx_lall 0 0 0 1 = true := by decide +kernel
set_option maxRecDepth 100000 in
theorem wx_l0_010 : wx_lall 0 0 1 0 = true := by decide +kernel
set_option maxRecDepth 100000 in
theorem wx_l0_011 : wx_lall 0 0 1 1 = true := by decide +kernel
