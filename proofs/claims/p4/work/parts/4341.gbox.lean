/-! groups: the boxes -/
set_option maxRecDepth 100000 in
theorem wx_g0_000 : wx_gall 0 0 0 0 = true := by decide +kernel
set_option maxRecDepth 100000 in
theorem wx_g0_001 : wx_gall 0 0 0 1 = true := by decide +kernel
set_option maxRecDepth 100000 in
theorem wx_g0_010 : wx_gall 0 0 1 0 = true := by decide +kernel
set_option maxRecDepth 100000 in
theorem wx_g0_011 : wx_gall 0 0 1 1 = true := by decide +kernel
