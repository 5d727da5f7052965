/-! CHECKS -/
set_option maxRecDepth 100000 in
theorem wx_k165 : (wx_e165).all (fun e => wx_chk (wx_M rx_xM rx_ro wx_T 165 wx_dM wx_iK 600 3) rx_ro wx_bx wx_Kst 6000 rx_m165 e) = true := by decide +kernel
