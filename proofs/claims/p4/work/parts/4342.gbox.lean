/-! groups: the boxes -/
set_option maxRecDepth 100000 in
theorem wx_g0_100 : wx_gall 0 1 0 0 = true := by decide +kernel
set_option maxRecDepth 100000 in
theorem wx_g0_101 : wx_gall 0 1 0 1 = true := by decide +kernel
set_option maxRecDepth 100000 in
theorem wx_g0_110 : wx_gall 0 1 1 0 = true := by decide +kernel
set_option maxRecDepth 100000 in
theorem wx_g0_111 : wx_gall 0 1 1 1 = true := by decide +kernel
