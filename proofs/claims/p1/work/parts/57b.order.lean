/-! the law: order, piece by piece -/
set_option maxRecDepth 100000 in
theorem rx_ord4 : rx_rng 64 16 = true := by decide +kernel
set_option maxRecDepth 100000 in
theorem rx_ord5 : rx_rng 80 16 = true := by decide +kernel
set_option maxRecDepth 100000 in
theorem rx_ord6 : rx_rng 96 16 = true := by decide +kernel
set_option maxRecDepth 100000 in
theorem rx_ord7 : rx_rng 112 16 = true := by decide +kernel
