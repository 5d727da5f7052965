/-! CHECKS -/
set_option maxRecDepth 100000 in
theorem wx_k22_18 : (wx_e22).all (fun e => wx_chk (wx_on wx_K18 22 e.2.2.2) rx_ro wx_nb wx_K18 20000 rx_m22 e) = true := by decide +kernel
set_option maxRecDepth 100000 in
theorem wx_k91_18 : (wx_e91).all (fun e => wx_chk (wx_on wx_K18 91 e.2.2.2) rx_ro wx_nb wx_K18 20000 rx_m91 e) = true := by decide +kernel
set_option maxRecDepth 100000 in
theorem wx_k90_18 : (wx_e90).all (fun e => wx_chk (wx_on wx_K18 90 e.2.2.2) rx_ro wx_nb wx_K18 20000 rx_m90 e) = true := by decide +kernel
set_option maxRecDepth 100000 in
theorem wx_k66_18 : (wx_e66).all (fun e => wx_chk (wx_on wx_K18 66 e.2.2.2) rx_ro wx_nb wx_K18 20000 rx_m66 e) = true := by decide +kernel
set_option maxRecDepth 100000 in
theorem wx_k74_18 : (wx_e74).all (fun e => wx_chk (wx_on wx_K18 74 e.2.2.2) rx_ro wx_nb wx_K18 20000 rx_m74 e) = true := by decide +kernel
set_option maxRecDepth 100000 in
theorem wx_k62_18 : (wx_e62).all (fun e => wx_chk (wx_on wx_K18 62 e.2.2.2) rx_ro wx_nb wx_K18 20000 rx_m62 e) = true := by decide +kernel
set_option maxRecDepth 100000 in
theorem wx_k64_18 : (wx_e64).all (fun e => wx_chk (wx_on wx_K18 64 e.2.2.2) rx_ro wx_nb wx_K18 20000 rx_m64 e) = true := by decide +kernel
set_option maxRecDepth 100000 in
theorem wx_k122_18 : (wx_e122).all (fun e => wx_chk (wx_on wx_K18 122 e.2.2.2) rx_ro wx_nb wx_K18 20000 rx_m122 e) = true := by decide +kernel
set_option maxRecDepth 100000 in
theorem wx_k135_18 : (wx_e135).all (fun e => wx_chk (wx_on wx_K18 135 e.2.2.2) rx_ro wx_nb wx_K18 20000 rx_m135 e) = true := by decide +kernel
set_option maxRecDepth 100000 in
theorem wx_k160_18 : (wx_e160).all (fun e => wx_chk (wx_on wx_K18 160 e.2.2.2) rx_ro wx_nb wx_K18 20000 rx_m160 e) = true := by decide +kernel
set_option maxRecDepth 100000 in
theorem wx_k164_18 : (wx_e164).all (fun e => wx_chk (wx_on wx_K18 164 e.2.2.2) rx_ro wx_nb wx_K18 20000 rx_m164 e) = true := by decide +kernel
set_option maxRecDepth 100000 in
theorem wx_k169_18 : (wx_e169).all (fun e => wx_chk (wx_on wx_K18 169 e.2.2.2) rx_ro wx_nb wx_K18 20000 rx_m169 e) = true := by decide +kernel
set_option maxRecDepth 100000 in
theorem wx_k170_18 : (wx_e170).all (fun e => wx_chk (wx_on wx_K18 170 e.2.2.2) rx_ro wx_nb wx_K18 20000 rx_m170 e) = true := by decide +kernel
set_option maxRecDepth 100000 in
theorem wx_k178_18 : (wx_e178).all (fun e => wx_chk (wx_on wx_K18 178 e.2.2.2) rx_ro wx_nb wx_K18 20000 rx_m178 e) = true := by decide +kernel
set_option maxRecDepth 100000 in
theorem wx_k188_18 : (wx_e188).all (fun e => wx_chk (wx_on wx_K18 188 e.2.2.2) rx_ro wx_nb wx_K18 20000 rx_m188 e) = true := by decide +kernel
set_option maxRecDepth 100000 in
theorem wx_k190_18 : (wx_e190).all (fun e => wx_chk (wx_on wx_K18 190 e.2.2.2) rx_ro wx_nb wx_K18 20000 rx_m190 e) = true := by decide +kernel
set_option maxRecDepth 100000 in
theorem wx_k166_18 : (wx_e166).all (fun e => wx_chk (wx_M rx_xM rx_ro wx_T 166 wx_dM wx_iK 600 3) rx_ro wx_nb wx_K18 20000 rx_m166 e) = true := by decide +kernel
set_option maxRecDepth 100000 in
theorem wx_k22_19 : (wx_e22).all (fun e => wx_chk (wx_on wx_K19 22 e.2.2.2) rx_ro wx_nb wx_K19 20000 rx_m22 e) = true := by decide +kernel
set_option maxRecDepth 100000 in
theorem wx_k91_19 : (wx_e91).all (fun e => wx_chk (wx_on wx_K19 91 e.2.2.2) rx_ro wx_nb wx_K19 20000 rx_m91 e) = true := by decide +kernel
set_option maxRecDepth 100000 in
theorem wx_k90_19 : (wx_e90).all (fun e => wx_chk (wx_on wx_K19 90 e.2.2.2) rx_ro wx_nb wx_K19 20000 rx_m90 e) = true := by decide +kernel
set_option maxRecDepth 100000 in
theorem wx_k66_19 : (wx_e66).all (fun e => wx_chk (wx_on wx_K19 66 e.2.2.2) rx_ro wx_nb wx_K19 20000 rx_m66 e) = true := by decide +kernel
set_option maxRecDepth 100000 in
theorem wx_k74_19 : (wx_e74).all (fun e => wx_chk (wx_on wx_K19 74 e.2.2.2) rx_ro wx_nb wx_K19 20000 rx_m74 e) = true := by decide +kernel
set_option maxRecDepth 100000 in
theorem wx_k62_19 : (wx_e62).all (fun e => wx_chk (wx_on wx_K19 62 e.2.2.2) rx_ro wx_nb wx_K19 20000 rx_m62 e) = true := by decide +kernel
set_option maxRecDepth 100000 in
theorem wx_k64_19 : (wx_e64).all (fun e => wx_chk (wx_on wx_K19 64 e.2.2.2) rx_ro wx_nb wx_K19 20000 rx_m64 e) = true := by decide +kernel
set_option maxRecDepth 100000 in
theorem wx_k122_19 : (wx_e122).all (fun e => wx_chk (wx_on wx_K19 122 e.2.2.2) rx_ro wx_nb wx_K19 20000 rx_m122 e) = true := by decide +kernel
set_option maxRecDepth 100000 in
theorem wx_k135_19 : (wx_e135).all (fun e => wx_chk (wx_on wx_K19 135 e.2.2.2) rx_ro wx_nb wx_K19 20000 rx_m135 e) = true := by decide +kernel
set_option maxRecDepth 100000 in
theorem wx_k160_19 : (wx_e160).all (fun e => wx_chk (wx_on wx_K19 160 e.2.2.2) rx_ro wx_nb wx_K19 20000 rx_m160 e) = true := by decide +kernel
set_option maxRecDepth 100000 in
theorem wx_k164_19 : (wx_e164).all (fun e => wx_chk (wx_on wx_K19 164 e.2.2.2) rx_ro wx_nb wx_K19 20000 rx_m164 e) = true := by decide +kernel
set_option maxRecDepth 100000 in
theorem wx_k169_19 : (wx_e169).all (fun e => wx_chk (wx_on wx_K19 169 e.2.2.2) rx_ro wx_nb wx_K19 20000 rx_m169 e) = true := by decide +kernel
set_option maxRecDepth 100000 in
theorem wx_k170_19 : (wx_e170).all (fun e => wx_chk (wx_on wx_K19 170 e.2.2.2) rx_ro wx_nb wx_K19 20000 rx_m170 e) = true := by decide +kernel
set_option maxRecDepth 100000 in
theorem wx_k178_19 : (wx_e178).all (fun e => wx_chk (wx_on wx_K19 178 e.2.2.2) rx_ro wx_nb wx_K19 20000 rx_m178 e) = true := by decide +kernel
set_option maxRecDepth 100000 in
theorem wx_k188_19 : (wx_e188).all (fun e => wx_chk (wx_on wx_K19 188 e.2.2.2) rx_ro wx_nb wx_K19 20000 rx_m188 e) = true := by decide +kernel
set_option maxRecDepth 100000 in
theorem wx_k190_19 : (wx_e190).all (fun e => wx_chk (wx_on wx_K19 190 e.2.2.2) rx_ro wx_nb wx_K19 20000 rx_m190 e) = true := by decide +kernel
set_option maxRecDepth 100000 in
theorem wx_k166_19 : (wx_e166).all (fun e => wx_chk (wx_M rx_xM rx_ro wx_T 166 wx_dM wx_iK 600 3) rx_ro wx_nb wx_K19 20000 rx_m166 e) = true := by decide +kernel
set_option maxRecDepth 100000 in
theorem wx_k22_20 : (wx_e22).all (fun e => wx_chk (wx_on wx_K20 22 e.2.2.2) rx_ro wx_nb wx_K20 20000 rx_m22 e) = true := by decide +kernel
set_option maxRecDepth 100000 in
theorem wx_k91_20 : (wx_e91).all (fun e => wx_chk (wx_on wx_K20 91 e.2.2.2) rx_ro wx_nb wx_K20 20000 rx_m91 e) = true := by decide +kernel
set_option maxRecDepth 100000 in
theorem wx_k90_20 : (wx_e90).all (fun e => wx_chk (wx_on wx_K20 90 e.2.2.2) rx_ro wx_nb wx_K20 20000 rx_m90 e) = true := by decide +kernel
set_option maxRecDepth 100000 in
theorem wx_k66_20 : (wx_e66).all (fun e => wx_chk (wx_on wx_K20 66 e.2.2.2) rx_ro wx_nb wx_K20 20000 rx_m66 e) = true := by decide +kernel
set_option maxRecDepth 100000 in
theorem wx_k74_20 : (wx_e74).all (fun e => wx_chk (wx_on wx_K20 74 e.2.2.2) rx_ro wx_nb wx_K20 20000 rx_m74 e) = true := by decide +kernel
set_option maxRecDepth 100000 in
theorem wx_k62_20 : (wx_e62).all (fun e => wx_chk (wx_on wx_K20 62 e.2.2.2) rx_ro wx_nb wx_K20 20000 rx_m62 e) = true := by decide +kernel
set_option maxRecDepth 100000 in
theorem wx_k64_20 : (wx_e64).all (fun e => wx_chk (wx_on wx_K20 64 e.2.2.2) rx_ro wx_nb wx_K20 20000 rx_m64 e) = true := by decide +kernel
set_option maxRecDepth 100000 in
theorem wx_k122_20 : (wx_e122).all (fun e => wx_chk (wx_on wx_K20 122 e.2.2.2) rx_ro wx_nb wx_K20 20000 rx_m122 e) = true := by decide +kernel
set_option maxRecDepth 100000 in
theorem wx_k135_20 : (wx_e135).all (fun e => wx_chk (wx_on wx_K20 135 e.2.2.2) rx_ro wx_nb wx_K20 20000 rx_m135 e) = true := by decide +kernel
set_option maxRecDepth 100000 in
theorem wx_k160_20 : (wx_e160).all (fun e => wx_chk (wx_on wx_K20 160 e.2.2.2) rx_ro wx_nb wx_K20 20000 rx_m160 e) = true := by decide +kernel
set_option maxRecDepth 100000 in
theorem wx_k164_20 : (wx_e164).all (fun e => wx_chk (wx_on wx_K20 164 e.2.2.2) rx_ro wx_nb wx_K20 20000 rx_m164 e) = true := by decide +kernel
set_option maxRecDepth 100000 in
theorem wx_k169_20 : (wx_e169).all (fun e => wx_chk (wx_on wx_K20 169 e.2.2.2) rx_ro wx_nb wx_K20 20000 rx_m169 e) = true := by decide +kernel
set_option maxRecDepth 100000 in
theorem wx_k170_20 : (wx_e170).all (fun e => wx_chk (wx_on wx_K20 170 e.2.2.2) rx_ro wx_nb wx_K20 20000 rx_m170 e) = true := by decide +kernel
set_option maxRecDepth 100000 in
theorem wx_k178_20 : (wx_e178).all (fun e => wx_chk (wx_on wx_K20 178 e.2.2.2) rx_ro wx_nb wx_K20 20000 rx_m178 e) = true := by decide +kernel
set_option maxRecDepth 100000 in
theorem wx_k188_20 : (wx_e188).all (fun e => wx_chk (wx_on wx_K20 188 e.2.2.2) rx_ro wx_nb wx_K20 20000 rx_m188 e) = true := by decide +kernel
set_option maxRecDepth 100000 in
theorem wx_k190_20 : (wx_e190).all (fun e => wx_chk (wx_on wx_K20 190 e.2.2.2) rx_ro wx_nb wx_K20 20000 rx_m190 e) = true := by decide +kernel
set_option maxRecDepth 100000 in
theorem wx_k166_20 : (wx_e166).all (fun e => wx_chk (wx_M rx_xM rx_ro wx_T 166 wx_dM wx_iK 600 3) rx_ro wx_nb wx_K20 20000 rx_m166 e) = true := by decide +kernel
set_option maxRecDepth 100000 in
theorem wx_k22_21 : (wx_e22).all (fun e => wx_chk (wx_on wx_K21 22 e.2.2.2) rx_ro wx_nb wx_K21 20000 rx_m22 e) = true := by decide +kernel
set_option maxRecDepth 100000 in
theorem wx_k91_21 : (wx_e91).all (fun e => wx_chk (wx_on wx_K21 91 e.2.2.2) rx_ro wx_nb wx_K21 20000 rx_m91 e) = true := by decide +kernel
set_option maxRecDepth 100000 in
theorem wx_k90_21 : (wx_e90).all (fun e => wx_chk (wx_on wx_K21 90 e.2.2.2) rx_ro wx_nb wx_K21 20000 rx_m90 e) = true := by decide +kernel
set_option maxRecDepth 100000 in
theorem wx_k66_21 : (wx_e66).all (fun e => wx_chk (wx_on wx_K21 66 e.2.2.2) rx_ro wx_nb wx_K21 20000 rx_m66 e) = true := by decide +kernel
set_option maxRecDepth 100000 in
theorem wx_k74_21 : (wx_e74).all (fun e => wx_chk (wx_on wx_K21 74 e.2.2.2) rx_ro wx_nb wx_K21 20000 rx_m74 e) = true := by decide +kernel
set_option maxRecDepth 100000 in
theorem wx_k62_21 : (wx_e62).all (fun e => wx_chk (wx_on wx_K21 62 e.2.2.2) rx_ro wx_nb wx_K21 20000 rx_m62 e) = true := by decide +kernel
set_option maxRecDepth 100000 in
theorem wx_k64_21 : (wx_e64).all (fun e => wx_chk (wx_on wx_K21 64 e.2.2.2) rx_ro wx_nb wx_K21 20000 rx_m64 e) = true := by decide +kernel
set_option maxRecDepth 100000 in
theorem wx_k122_21 : (wx_e122).all (fun e => wx_chk (wx_on wx_K21 122 e.2.2.2) rx_ro wx_nb wx_K21 20000 rx_m122 e) = true := by decide +kernel
set_option maxRecDepth 100000 in
theorem wx_k135_21 : (wx_e135).all (fun e => wx_chk (wx_on wx_K21 135 e.2.2.2) rx_ro wx_nb wx_K21 20000 rx_m135 e) = true := by decide +kernel
set_option maxRecDepth 100000 in
theorem wx_k160_21 : (wx_e160).all (fun e => wx_chk (wx_on wx_K21 160 e.2.2.2) rx_ro wx_nb wx_K21 20000 rx_m160 e) = true := by decide +kernel
set_option maxRecDepth 100000 in
theorem wx_k164_21 : (wx_e164).all (fun e => wx_chk (wx_on wx_K21 164 e.2.2.2) rx_ro wx_nb wx_K21 20000 rx_m164 e) = true := by decide +kernel
set_option maxRecDepth 100000 in
theorem wx_k169_21 : (wx_e169).all (fun e => wx_chk (wx_on wx_K21 169 e.2.2.2) rx_ro wx_nb wx_K21 20000 rx_m169 e) = true := by decide +kernel
set_option maxRecDepth 100000 in
theorem wx_k170_21 : (wx_e170).all (fun e => wx_chk (wx_on wx_K21 170 e.2.2.2) rx_ro wx_nb wx_K21 20000 rx_m170 e) = true := by decide +kernel
set_option maxRecDepth 100000 in
theorem wx_k178_21 : (wx_e178).all (fun e => wx_chk (wx_on wx_K21 178 e.2.2.2) rx_ro wx_nb wx_K21 20000 rx_m178 e) = true := by decide +kernel
set_option maxRecDepth 100000 in
theorem wx_k188_21 : (wx_e188).all (fun e => wx_chk (wx_on wx_K21 188 e.2.2.2) rx_ro wx_nb wx_K21 20000 rx_m188 e) = true := by decide +kernel
set_option maxRecDepth 100000 in
theorem wx_k190_21 : (wx_e190).all (fun e => wx_chk (wx_on wx_K21 190 e.2.2.2) rx_ro wx_nb wx_K21 20000 rx_m190 e) = true := by decide +kernel
set_option maxRecDepth 100000 in
theorem wx_k166_21 : (wx_e166).all (fun e => wx_chk (wx_M rx_xM rx_ro wx_T 166 wx_dM wx_iK 600 3) rx_ro wx_nb wx_K21 20000 rx_m166 e) = true := by decide +kernel
set_option maxRecDepth 100000 in
theorem wx_k22_22 : (wx_e22).all (fun e => wx_chk (wx_on wx_K22 22 e.2.2.2) rx_ro wx_nb wx_K22 20000 rx_m22 e) = true := by decide +kernel
set_option maxRecDepth 100000 in
theorem wx_k91_22 : (wx_e91).all (fun e => wx_chk (wx_on wx_K22 91 e.2.2.2) rx_ro wx_nb wx_K22 20000 rx_m91 e) = true := by decide +kernel
set_option maxRecDepth 100000 in
theorem wx_k90_22 : (wx_e90).all (fun e => wx_chk (wx_on wx_K22 90 e.2.2.2) rx_ro wx_nb wx_K22 20000 rx_m90 e) = true := by decide +kernel
set_option maxRecDepth 100000 in
theorem wx_k66_22 : (wx_e66).all (fun e => wx_chk (wx_on wx_K22 66 e.2.2.2) rx_ro wx_nb wx_K22 20000 rx_m66 e) = true := by decide +kernel
set_option maxRecDepth 100000 in
theorem wx_k74_22 : (wx_e74).all (fun e => wx_chk (wx_on wx_K22 74 e.2.2.2) rx_ro wx_nb wx_K22 20000 rx_m74 e) = true := by decide +kernel
set_option maxRecDepth 100000 in
theorem wx_k62_22 : (wx_e62).all (fun e => wx_chk (wx_on wx_K22 62 e.2.2.2) rx_ro wx_nb wx_K22 20000 rx_m62 e) = true := by decide +kernel
set_option maxRecDepth 100000 in
theorem wx_k64_22 : (wx_e64).all (fun e => wx_chk (wx_on wx_K22 64 e.2.2.2) rx_ro wx_nb wx_K22 20000 rx_m64 e) = true := by decide +kernel
set_option maxRecDepth 100000 in
theorem wx_k122_22 : (wx_e122).all (fun e => wx_chk (wx_on wx_K22 122 e.2.2.2) rx_ro wx_nb wx_K22 20000 rx_m122 e) = true := by decide +kernel
set_option maxRecDepth 100000 in
theorem wx_k135_22 : (wx_e135).all (fun e => wx_chk (wx_on wx_K22 135 e.2.2.2) rx_ro wx_nb wx_K22 20000 rx_m135 e) = true := by decide +kernel
set_option maxRecDepth 100000 in
theorem wx_k160_22 : (wx_e160).all (fun e => wx_chk (wx_on wx_K22 160 e.2.2.2) rx_ro wx_nb wx_K22 20000 rx_m160 e) = true := by decide +kernel
set_option maxRecDepth 100000 in
theorem wx_k164_22 : (wx_e164).all (fun e => wx_chk (wx_on wx_K22 164 e.2.2.2) rx_ro wx_nb wx_K22 20000 rx_m164 e) = true := by decide +kernel
set_option maxRecDepth 100000 in
theorem wx_k169_22 : (wx_e169).all (fun e => wx_chk (wx_on wx_K22 169 e.2.2.2) rx_ro wx_nb wx_K22 20000 rx_m169 e) = true := by decide +kernel
set_option maxRecDepth 100000 in
theorem wx_k170_22 : (wx_e170).all (fun e => wx_chk (wx_on wx_K22 170 e.2.2.2) rx_ro wx_nb wx_K22 20000 rx_m170 e) = true := by decide +kernel
set_option maxRecDepth 100000 in
theorem wx_k178_22 : (wx_e178).all (fun e => wx_chk (wx_on wx_K22 178 e.2.2.2) rx_ro wx_nb wx_K22 20000 rx_m178 e) = true := by decide +kernel
set_option maxRecDepth 100000 in
theorem wx_k188_22 : (wx_e188).all (fun e => wx_chk (wx_on wx_K22 188 e.2.2.2) rx_ro wx_nb wx_K22 20000 rx_m188 e) = true := by decide +kernel
set_option maxRecDepth 100000 in
theorem wx_k190_22 : (wx_e190).all (fun e => wx_chk (wx_on wx_K22 190 e.2.2.2) rx_ro wx_nb wx_K22 20000 rx_m190 e) = true := by decide +kernel
set_option maxRecDepth 100000 in
theorem wx_k166_22 : (wx_e166).all (fun e => wx_chk (wx_M rx_xM rx_ro wx_T 166 wx_dM wx_iK 600 3) rx_ro wx_nb wx_K22 20000 rx_m166 e) = true := by decide +kernel
set_option maxRecDepth 100000 in
theorem wx_k22_23 : (wx_e22).all (fun e => wx_chk (wx_on wx_K23 22 e.2.2.2) rx_ro wx_nb wx_K23 20000 rx_m22 e) = true := by decide +kernel
set_option maxRecDepth 100000 in
theorem wx_k91_23 : (wx_e91).all (fun e => wx_chk (wx_on wx_K23 91 e.2.2.2) rx_ro wx_nb wx_K23 20000 rx_m91 e) = true := by decide +kernel
set_option maxRecDepth 100000 in
theorem wx_k90_23 : (wx_e90).all (fun e => wx_chk (wx_on wx_K23 90 e.2.2.2) rx_ro wx_nb wx_K23 20000 rx_m90 e) = true := by decide +kernel
set_option maxRecDepth 100000 in
theorem wx_k66_23 : (wx_e66).all (fun e => wx_chk (wx_on wx_K23 66 e.2.2.2) rx_ro wx_nb wx_K23 20000 rx_m66 e) = true := by decide +kernel
set_option maxRecDepth 100000 in
theorem wx_k74_23 : (wx_e74).all (fun e => wx_chk (wx_on wx_K23 74 e.2.2.2) rx_ro wx_nb wx_K23 20000 rx_m74 e) = true := by decide +kernel
set_option maxRecDepth 100000 in
theorem wx_k62_23 : (wx_e62).all (fun e => wx_chk (wx_on wx_K23 62 e.2.2.2) rx_ro wx_nb wx_K23 20000 rx_m62 e) = true := by decide +kernel
set_option maxRecDepth 100000 in
theorem wx_k64_23 : (wx_e64).all (fun e => wx_chk (wx_on wx_K23 64 e.2.2.2) rx_ro wx_nb wx_K23 20000 rx_m64 e) = true := by decide +kernel
set_option maxRecDepth 100000 in
theorem wx_k122_23 : (wx_e122).all (fun e => wx_chk (wx_on wx_K23 122 e.2.2.2) rx_ro wx_nb wx_K23 20000 rx_m122 e) = true := by decide +kernel
set_option maxRecDepth 100000 in
theorem wx_k135_23 : (wx_e135).all (fun e => wx_chk (wx_on wx_K23 135 e.2.2.2) rx_ro wx_nb wx_K23 20000 rx_m135 e) = true := by decide +kernel
set_option maxRecDepth 100000 in
theorem wx_k160_23 : (wx_e160).all (fun e => wx_chk (wx_on wx_K23 160 e.2.2.2) rx_ro wx_nb wx_K23 20000 rx_m160 e) = true := by decide +kernel
set_option maxRecDepth 100000 in
theorem wx_k164_23 : (wx_e164).all (fun e => wx_chk (wx_on wx_K23 164 e.2.2.2) rx_ro wx_nb wx_K23 20000 rx_m164 e) = true := by decide +kernel
set_option maxRecDepth 100000 in
theorem wx_k169_23 : (wx_e169).all (fun e => wx_chk (wx_on wx_K23 169 e.2.2.2) rx_ro wx_nb wx_K23 20000 rx_m169 e) = true := by decide +kernel
set_option maxRecDepth 100000 in
theorem wx_k170_23 : (wx_e170).all (fun e => wx_chk (wx_on wx_K23 170 e.2.2.2) rx_ro wx_nb wx_K23 20000 rx_m170 e) = true := by decide +kernel
set_option maxRecDepth 100000 in
theorem wx_k178_23 : (wx_e178).all (fun e => wx_chk (wx_on wx_K23 178 e.2.2.2) rx_ro wx_nb wx_K23 20000 rx_m178 e) = true := by decide +kernel
set_option maxRecDepth 100000 in
theorem wx_k188_23 : (wx_e188).all (fun e => wx_chk (wx_on wx_K23 188 e.2.2.2) rx_ro wx_nb wx_K23 20000 rx_m188 e) = true := by decide +kernel
set_option maxRecDepth 100000 in
theorem wx_k190_23 : (wx_e190).all (fun e => wx_chk (wx_on wx_K23 190 e.2.2.2) rx_ro wx_nb wx_K23 20000 rx_m190 e) = true := by decide +kernel
set_option maxRecDepth 100000 in
theorem wx_k166_23 : (wx_e166).all (fun e => wx_chk (wx_M rx_xM rx_ro wx_T 166 wx_dM wx_iK 600 3) rx_ro wx_nb wx_K23 20000 rx_m166 e) = true := by decide +kernel
