/-! CHECKS -/
set_option maxRecDepth 100000 in
theorem wx_k175 : (wx_e175).all (fun e => wx_chk (wx_or 175 e.2.2.2) rx_ro wx_bx wx_Kst 6000 rx_m175 e) = true := by decide +kernel
set_option maxRecDepth 100000 in
theorem wx_k176 : (wx_e176).all (fun e => wx_chk (wx_or 176 e.2.2.2) rx_ro wx_bx wx_Kst 6000 rx_m176 e) = true := by decide +kernel
set_option maxRecDepth 100000 in
theorem wx_k177 : (wx_e177).all (fun e => wx_chk (wx_or 177 e.2.2.2) rx_ro wx_bx wx_Kst 6000 rx_m177 e) = true := by decide +kernel
set_option maxRecDepth 100000 in
theorem wx_k178 : (wx_e178).all (fun e => wx_chk (wx_or 178 e.2.2.2) rx_ro wx_bx wx_Kst 6000 rx_m178 e) = true := by decide +kernel
set_option maxRecDepth 100000 in
theorem wx_k179 : (wx_e179).all (fun e => wx_chk (wx_or 179 e.2.2.2) rx_ro wx_bx wx_Kst 6000 rx_m179 e) = true := by decide +kernel
set_option maxRecDepth 100000 in
theorem wx_k180 : (wx_e180).all (fun e => wx_chk (wx_or 180 e.2.2.2) rx_ro wx_bx wx_Kst 6000 rx_m180 e) = true := by decide +kernel
set_option maxRecDepth 100000 in
theorem wx_k181 : (wx_e181).all (fun e => wx_chk (wx_or 181 e.2.2.2) rx_ro wx_bx wx_Kst 6000 rx_m181 e) = true := by decide +kernel
set_option maxRecDepth 100000 in
theorem wx_k182 : (wx_e182).all (fun e => wx_chk (wx_or 182 e.2.2.2) rx_ro wx_bx wx_Kst 6000 rx_m182 e) = true := by decide +kernel
set_option maxRecDepth 100000 in
theorem wx_k183 : (wx_e183).all (fun e => wx_chk (wx_or 183 e.2.2.2) rx_ro wx_bx wx_Kst 6000 rx_m183 e) = true := by decide +kernel
set_option maxRecDepth 100000 in
theorem wx_k184 : (wx_e184).all (fun e => wx_chk (wx_or 184 e.2.2.2) rx_ro wx_bx wx_Kst 6000 rx_m184 e) = true := by decide +kernel
set_option maxRecDepth 100000 in
theorem wx_k185 : (wx_e185).all (fun e => wx_chk (wx_or 185 e.2.2.2) rx_ro wx_bx wx_Kst 6000 rx_m185 e) = true := by decide +kernel
set_option maxRecDepth 100000 in
theorem wx_k186 : (wx_e186).all (fun e => wx_chk (wx_or 186 e.2.2.2) rx_ro wx_bx wx_Kst 6000 rx_m186 e) = true := by decide +kernel
set_option maxRecDepth 100000 in
theorem wx_k187 : (wx_e187).all (fun e => wx_chk (wx_or 187 e.2.2.2) rx_ro wx_bx wx_Kst 6000 rx_m187 e) = true := by decide +kernel
set_option maxRecDepth 100000 in
theorem wx_k189 : (wx_e189).all (fun e => wx_chk (wx_or 189 e.2.2.2) rx_ro wx_bx wx_Kst 6000 rx_m189 e) = true := by decide +kernel
