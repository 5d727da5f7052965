/-! CHECKS -/
set_option maxRecDepth 100000 in
theorem wx_k183 : (wx_e183).all (fun e => wx_chk (wx_or 183 e.2.2.2) rx_ro wx_bx wx_Kst 6000 rx_m183 e) = true := by decide +kernel
set_option maxRecDepth 100000 in
theorem wx_k184 : (wx_e184).all (fun e => wx_chk (wx_or 184 e.2.2.2) rx_ro wx_bx wx_Kst 6000 rx_m184 e) = true := by decide +kernel
set_option maxRecDepth 100000 in
theorem wx_k185 : (wx_e185).all (fun e => wx_chk (wx_or 185 e.2.2.2) rx_ro wx_bx wx_Kst 6000 rx_m185 e) = true := by decide +kernel
set_option maxRecDepth 100000 in
theorem wx_k186 : (wx_e186).all (fun e => wx_chk (wx_or 186 e.2.2.2) rx_ro wx_bx wx_Kst 6000 rx_m186 e) = true := by decide +kernel
set_option maxRecDepth 100000 in
theorem wx_k187 : (wx_e187).all (fun e => wx_chk (wx_or 187 e.2.2.2) rx_ro wx_bx wx_Kst 6000 rx_m187 e) = true := by decide +kernel
