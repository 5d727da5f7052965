/-! the law: order, and short scripts -/
set_option maxRecDepth 100000 in
theorem rx_law1 : rx_allw 256 = true := by decide +kernel
set_option maxRecDepth 100000 in
theorem rx_short0 : rx_chkL [] = true := by decide +kernel
set_option maxRecDepth 100000 in
theorem rx_short1 : rx_chkL [.inl rx_top] = true := by decide +kernel
set_option maxRecDepth 100000 in
theorem rx_short2 : rx_chkL [.inl rx_top, .inl rx_top] = true := by decide +kernel
set_option maxRecDepth 100000 in
theorem rx_short3 : rx_chkL [.inl rx_top, .inl rx_top, .inl rx_top] = true := by decide +kernel
set_option maxRecDepth 100000 in
theorem rx_short4 : rx_chkL [.inl rx_top, .inl rx_top, .inl rx_top, .inl rx_top] = true := by decide +kernel
