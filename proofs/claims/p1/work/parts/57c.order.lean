/-! the law: order, piece by piece -/
set_option maxRecDepth 100000 in
theorem rx_ord8 : rx_rng 128 16 = true := by decide +kernel
set_option maxRecDepth 100000 in
theorem rx_ord9 : rx_rng 144 16 = true := by decide +kernel
set_option maxRecDepth 100000 in
theorem rx_ord10 : rx_rng 160 16 = true := by decide +kernel
set_option maxRecDepth 100000 in
theorem rx_ord11 : rx_rng 176 16 = true := by decide +kernel
