/-! loads: the boxes -/
set_option maxRecDepth 100000 in
theorem wx_l0_100 : wx_lall 0 1 0 0 = true := by decide +kernel
set_option maxRecDepth 100000 in
theorem wx_l0_101 : wx_lall 0 1 0 1 = true := by decide +kernel
set_option maxRecDepth 100000 in
theorem wx_l0_110 : wx_lall 0 1 1 0 = true := by decide +kernel
set_option maxRecDepth 100000 in
theorem wx_l0_111 : wx_lall 0 1 1 1 = true := by decide +kernel
