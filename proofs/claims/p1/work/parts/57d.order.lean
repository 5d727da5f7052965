/-! the law: order, piece by piece -/
set_option maxRecDepth 100000 in
theorem rx_ord12 : rx_rng 192 16 = true := by decide +kernel
set_option maxRecDepth 100000 in
theorem rx_ord13 : rx_rng 208 16 = true := by decide +kernel
set_option maxRecDepth 100000 in
theorem rx_ord14 : rx_rng 224 16 = true := by decide +kernel
set_option maxRecDepth 100000 in
theorem rx_ord15 : rx_rng 240 16 = true := by decide +kernel
