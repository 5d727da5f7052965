/-! CHECKS -/
set_option maxRecDepth 100000 in
theorem wx_k22_6 : (wx_e22).all (fun e => wx_chk (wx_on wx_K6 22 e.2.2.2) rx_ro wx_nb wx_K6 20000 rx_m22 e) = true := by decide +kernel
set_option maxRecDepth 100000 in
theorem wx_k91_6 : (wx_e91).all (fun e => wx_chk (wx_on wx_K6 91 e.2.2.2) rx_ro wx_nb wx_K6 20000 rx_m91 e) = true := by decide +kernel
set_option maxRecDepth 100000 in
theorem wx_k90_6 : (wx_e90).all (fun e => wx_chk (wx_on wx_K6 90 e.2.2.2) rx_ro wx_nb wx_K6 20000 rx_m90 e) = true := by decide +kernel
set_option maxRecDepth 100000 in
theorem wx_k66_6 : (wx_e66).all (fun e => wx_chk (wx_on wx_K6 66 e.2.2.2) rx_ro wx_nb wx_K6 20000 rx_m66 e) = true := by decide +kernel
set_option maxRecDepth 100000 in
theorem wx_k74_6 : (wx_e74).all (fun e => wx_chk (wx_on wx_K6 74 e.2.2.2) rx_ro wx_nb wx_K6 20000 rx_m74 e) = true := by decide +kernel
set_option maxRecDepth 100000 in
theorem wx_k62_6 : (wx_e62).all (fun e => wx_chk (wx_on wx_K6 62 e.2.2.2) rx_ro wx_nb wx_K6 20000 rx_m62 e) = true := by decide +kernel
set_option maxRecDepth 100000 in
theorem wx_k64_6 : (wx_e64).all (fun e => wx_chk (wx_on wx_K6 64 e.2.2.2) rx_ro wx_nb wx_K6 20000 rx_m64 e) = true := by decide +kernel
set_option maxRecDepth 100000 in
theorem wx_k122_6 : (wx_e122).all (fun e => wx_chk (wx_on wx_K6 122 e.2.2.2) rx_ro wx_nb wx_K6 20000 rx_m122 e) = true := by decide +kernel
set_option maxRecDepth 100000 in
theorem wx_k135_6 : (wx_e135).all (fun e => wx_chk (wx_on wx_K6 135 e.2.2.2) rx_ro wx_nb wx_K6 20000 rx_m135 e) = true := by decide +kernel
set_option maxRecDepth 100000 in
theorem wx_k160_6 : (wx_e160).all (fun e => wx_chk (wx_on wx_K6 160 e.2.2.2) rx_ro wx_nb wx_K6 20000 rx_m160 e) = true := by decide +kernel
set_option maxRecDepth 100000 in
theorem wx_k164_6 : (wx_e164).all (fun e => wx_chk (wx_on wx_K6 164 e.2.2.2) rx_ro wx_nb wx_K6 20000 rx_m164 e) = true := by decide +kernel
set_option maxRecDepth 100000 in
theorem wx_k169_6 : (wx_e169).all (fun e => wx_chk (wx_on wx_K6 169 e.2.2.2) rx_ro wx_nb wx_K6 20000 rx_m169 e) = true := by decide +kernel
set_option maxRecDepth 100000 in
theorem wx_k170_6 : (wx_e170).all (fun e => wx_chk (wx_on wx_K6 170 e.2.2.2) rx_ro wx_nb wx_K6 20000 rx_m170 e) = true := by decide +kernel
set_option maxRecDepth 100000 in
theorem wx_k178_6 : (wx_e178).all (fun e => wx_chk (wx_on wx_K6 178 e.2.2.2) rx_ro wx_nb wx_K6 20000 rx_m178 e) = true := by decide +kernel
set_option maxRecDepth 100000 in
theorem wx_k188_6 : (wx_e188).all (fun e => wx_chk (wx_on wx_K6 188 e.2.2.2) rx_ro wx_nb wx_K6 20000 rx_m188 e) = true := by decide +kernel
set_option maxRecDepth 100000 in
theorem wx_k190_6 : (wx_e190).all (fun e => wx_chk (wx_on wx_K6 190 e.2.2.2) rx_ro wx_nb wx_K6 20000 rx_m190 e) = true := by decide +kernel
set_option maxRecDepth 100000 in
theorem wx_k166_6 : (wx_e166).all (fun e => wx_chk (wx_M rx_xM rx_ro wx_T 166 wx_dM wx_iK 600 3) rx_ro wx_nb wx_K6 20000 rx_m166 e) = true := by decide +kernel
set_option maxRecDepth 100000 in
theorem wx_k22_7 : (wx_e22).all (fun e => wx_chk (wx_on wx_K7 22 e.2.2.2) rx_ro wx_nb wx_K7 20000 rx_m22 e) = true := by decide +kernel
set_option maxRecDepth 100000 in
theorem wx_k91_7 : (wx_e91).all (fun e => wx_chk (wx_on wx_K7 91 e.2.2.2) rx_ro wx_nb wx_K7 20000 rx_m91 e) = true := by decide +kernel
set_option maxRecDepth 100000 in
theorem wx_k90_7 : (wx_e90).all (fun e => wx_chk (wx_on wx_K7 90 e.2.2.2) rx_ro wx_nb wx_K7 20000 rx_m90 e) = true := by decide +kernel
set_option maxRecDepth 100000 in
theorem wx_k66_7 : (wx_e66).all (fun e => wx_chk (wx_on wx_K7 66 e.2.2.2) rx_ro wx_nb wx_K7 20000 rx_m66 e) = true := by decide +kernel
set_option maxRecDepth 100000 in
theorem wx_k74_7 : (wx_e74).all (fun e => wx_chk (wx_on wx_K7 74 e.2.2.2) rx_ro wx_nb wx_K7 20000 rx_m74 e) = true := by decide +kernel
set_option maxRecDepth 100000 in
theorem wx_k62_7 : (wx_e62).all (fun e => wx_chk (wx_on wx_K7 62 e.2.2.2) rx_ro wx_nb wx_K7 20000 rx_m62 e) = true := by decide +kernel
set_option maxRecDepth 100000 in
theorem wx_k64_7 : (wx_e64).all (fun e => wx_chk (wx_on wx_K7 64 e.2.2.2) rx_ro wx_nb wx_K7 20000 rx_m64 e) = true := by decide +kernel
set_option maxRecDepth 100000 in
theorem wx_k122_7 : (wx_e122).all (fun e => wx_chk (wx_on wx_K7 122 e.2.2.2) rx_ro wx_nb wx_K7 20000 rx_m122 e) = true := by decide +kernel
set_option maxRecDepth 100000 in
theorem wx_k135_7 : (wx_e135).all (fun e => wx_chk (wx_on wx_K7 135 e.2.2.2) rx_ro wx_nb wx_K7 20000 rx_m135 e) = true := by decide +kernel
set_option maxRecDepth 100000 in
theorem wx_k160_7 : (wx_e160).all (fun e => wx_chk (wx_on wx_K7 160 e.2.2.2) rx_ro wx_nb wx_K7 20000 rx_m160 e) = true := by decide +kernel
set_option maxRecDepth 100000 in
theorem wx_k164_7 : (wx_e164).all (fun e => wx_chk (wx_on wx_K7 164 e.2.2.2) rx_ro wx_nb wx_K7 20000 rx_m164 e) = true := by decide +kernel
set_option maxRecDepth 100000 in
theorem wx_k169_7 : (wx_e169).all (fun e => wx_chk (wx_on wx_K7 169 e.2.2.2) rx_ro wx_nb wx_K7 20000 rx_m169 e) = true := by decide +kernel
set_option maxRecDepth 100000 in
theorem wx_k170_7 : (wx_e170).all (fun e => wx_chk (wx_on wx_K7 170 e.2.2.2) rx_ro wx_nb wx_K7 20000 rx_m170 e) = true := by decide +kernel
set_option maxRecDepth 100000 in
theorem wx_k178_7 : (wx_e178).all (fun e => wx_chk (wx_on wx_K7 178 e.2.2.2) rx_ro wx_nb wx_K7 20000 rx_m178 e) = true := by decide +kernel
set_option maxRecDepth 100000 in
theorem wx_k188_7 : (wx_e188).all (fun e => wx_chk (wx_on wx_K7 188 e.2.2.2) rx_ro wx_nb wx_K7 20000 rx_m188 e) = true := by decide +kernel
set_option maxRecDepth 100000 in
theorem wx_k190_7 : (wx_e190).all (fun e => wx_chk (wx_on wx_K7 190 e.2.2.2) rx_ro wx_nb wx_K7 20000 rx_m190 e) = true := by decide +kernel
set_option maxRecDepth 100000 in
theorem wx_k166_7 : (wx_e166).all (fun e => wx_chk (wx_M rx_xM rx_ro wx_T 166 wx_dM wx_iK 600 3) rx_ro wx_nb wx_K7 20000 rx_m166 e) = true := by decide +kernel
set_option maxRecDepth 100000 in
theorem wx_k22_8 : (wx_e22).all (fun e => wx_chk (wx_on wx_K8 22 e.2.2.2) rx_ro wx_nb wx_K8 20000 rx_m22 e) = true := by decide +kernel
set_option maxRecDepth 100000 in
theorem wx_k91_8 : (wx_e91).all (fun e => wx_chk (wx_on wx_K8 91 e.2.2.2) rx_ro wx_nb wx_K8 20000 rx_m91 e) = true := by decide +kernel
set_option maxRecDepth 100000 in
theorem wx_k90_8 : (wx_e90).all (fun e => wx_chk (wx_on wx_K8 90 e.2.2.2) rx_ro wx_nb wx_K8 20000 rx_m90 e) = true := by decide +kernel
set_option maxRecDepth 100000 in
theorem wx_k66_8 : (wx_e66).all (fun e => wx_chk (wx_on wx_K8 66 e.2.2.2) rx_ro wx_nb wx_K8 20000 rx_m66 e) = true := by decide +kernel
set_option maxRecDepth 100000 in
theorem wx_k74_8 : (wx_e74).all (fun e => wx_chk (wx_on wx_K8 74 e.2.2.2) rx_ro wx_nb wx_K8 20000 rx_m74 e) = true := by decide +kernel
set_option maxRecDepth 100000 in
theorem wx_k62_8 : (wx_e62).all (fun e => wx_chk (wx_on wx_K8 62 e.2.2.2) rx_ro wx_nb wx_K8 20000 rx_m62 e) = true := by decide +kernel
set_option maxRecDepth 100000 in
theorem wx_k64_8 : (wx_e64).all (fun e => wx_chk (wx_on wx_K8 64 e.2.2.2) rx_ro wx_nb wx_K8 20000 rx_m64 e) = true := by decide +kernel
set_option maxRecDepth 100000 in
theorem wx_k122_8 : (wx_e122).all (fun e => wx_chk (wx_on wx_K8 122 e.2.2.2) rx_ro wx_nb wx_K8 20000 rx_m122 e) = true := by decide +kernel
set_option maxRecDepth 100000 in
theorem wx_k135_8 : (wx_e135).all (fun e => wx_chk (wx_on wx_K8 135 e.2.2.2) rx_ro wx_nb wx_K8 20000 rx_m135 e) = true := by decide +kernel
set_option maxRecDepth 100000 in
theorem wx_k160_8 : (wx_e160).all (fun e => wx_chk (wx_on wx_K8 160 e.2.2.2) rx_ro wx_nb wx_K8 20000 rx_m160 e) = true := by decide +kernel
set_option maxRecDepth 100000 in
theorem wx_k164_8 : (wx_e164).all (fun e => wx_chk (wx_on wx_K8 164 e.2.2.2) rx_ro wx_nb wx_K8 20000 rx_m164 e) = true := by decide +kernel
set_option maxRecDepth 100000 in
theorem wx_k169_8 : (wx_e169).all (fun e => wx_chk (wx_on wx_K8 169 e.2.2.2) rx_ro wx_nb wx_K8 20000 rx_m169 e) = true := by decide +kernel
set_option maxRecDepth 100000 in
theorem wx_k170_8 : (wx_e170).all (fun e => wx_chk (wx_on wx_K8 170 e.2.2.2) rx_ro wx_nb wx_K8 20000 rx_m170 e) = true := by decide +kernel
set_option maxRecDepth 100000 in
theorem wx_k178_8 : (wx_e178).all (fun e => wx_chk (wx_on wx_K8 178 e.2.2.2) rx_ro wx_nb wx_K8 20000 rx_m178 e) = true := by decide +kernel
set_option maxRecDepth 100000 in
theorem wx_k188_8 : (wx_e188).all (fun e => wx_chk (wx_on wx_K8 188 e.2.2.2) rx_ro wx_nb wx_K8 20000 rx_m188 e) = true := by decide +kernel
set_option maxRecDepth 100000 in
theorem wx_k190_8 : (wx_e190).all (fun e => wx_chk (wx_on wx_K8 190 e.2.2.2) rx_ro wx_nb wx_K8 20000 rx_m190 e) = true := by decide +kernel
set_option maxRecDepth 100000 in
theorem wx_k166_8 : (wx_e166).all (fun e => wx_chk (wx_M rx_xM rx_ro wx_T 166 wx_dM wx_iK 600 3) rx_ro wx_nb wx_K8 20000 rx_m166 e) = true := by decide +kernel
set_option maxRecDepth 100000 in
theorem wx_k22_9 : (wx_e22).all (fun e => wx_chk (wx_on wx_K9 22 e.2.2.2) rx_ro wx_nb wx_K9 20000 rx_m22 e) = true := by decide +kernel
set_option maxRecDepth 100000 in
theorem wx_k91_9 : (wx_e91).all (fun e => wx_chk (wx_on wx_K9 91 e.2.2.2) rx_ro wx_nb wx_K9 20000 rx_m91 e) = true := by decide +kernel
set_option maxRecDepth 100000 in
theorem wx_k90_9 : (wx_e90).all (fun e => wx_chk (wx_on wx_K9 90 e.2.2.2) rx_ro wx_nb wx_K9 20000 rx_m90 e) = true := by decide +kernel
set_option maxRecDepth 100000 in
theorem wx_k66_9 : (wx_e66).all (fun e => wx_chk (wx_on wx_K9 66 e.2.2.2) rx_ro wx_nb wx_K9 20000 rx_m66 e) = true := by decide +kernel
set_option maxRecDepth 100000 in
theorem wx_k74_9 : (wx_e74).all (fun e => wx_chk (wx_on wx_K9 74 e.2.2.2) rx_ro wx_nb wx_K9 20000 rx_m74 e) = true := by decide +kernel
set_option maxRecDepth 100000 in
theorem wx_k62_9 : (wx_e62).all (fun e => wx_chk (wx_on wx_K9 62 e.2.2.2) rx_ro wx_nb wx_K9 20000 rx_m62 e) = true := by decide +kernel
set_option maxRecDepth 100000 in
theorem wx_k64_9 : (wx_e64).all (fun e => wx_chk (wx_on wx_K9 64 e.2.2.2) rx_ro wx_nb wx_K9 20000 rx_m64 e) = true := by decide +kernel
set_option maxRecDepth 100000 in
theorem wx_k122_9 : (wx_e122).all (fun e => wx_chk (wx_on wx_K9 122 e.2.2.2) rx_ro wx_nb wx_K9 20000 rx_m122 e) = true := by decide +kernel
set_option maxRecDepth 100000 in
theorem wx_k135_9 : (wx_e135).all (fun e => wx_chk (wx_on wx_K9 135 e.2.2.2) rx_ro wx_nb wx_K9 20000 rx_m135 e) = true := by decide +kernel
set_option maxRecDepth 100000 in
theorem wx_k160_9 : (wx_e160).all (fun e => wx_chk (wx_on wx_K9 160 e.2.2.2) rx_ro wx_nb wx_K9 20000 rx_m160 e) = true := by decide +kernel
set_option maxRecDepth 100000 in
theorem wx_k164_9 : (wx_e164).all (fun e => wx_chk (wx_on wx_K9 164 e.2.2.2) rx_ro wx_nb wx_K9 20000 rx_m164 e) = true := by decide +kernel
set_option maxRecDepth 100000 in
theorem wx_k169_9 : (wx_e169).all (fun e => wx_chk (wx_on wx_K9 169 e.2.2.2) rx_ro wx_nb wx_K9 20000 rx_m169 e) = true := by decide +kernel
set_option maxRecDepth 100000 in
theorem wx_k170_9 : (wx_e170).all (fun e => wx_chk (wx_on wx_K9 170 e.2.2.2) rx_ro wx_nb wx_K9 20000 rx_m170 e) = true := by decide +kernel
set_option maxRecDepth 100000 in
theorem wx_k178_9 : (wx_e178).all (fun e => wx_chk (wx_on wx_K9 178 e.2.2.2) rx_ro wx_nb wx_K9 20000 rx_m178 e) = true := by decide +kernel
set_option maxRecDepth 100000 in
theorem wx_k188_9 : (wx_e188).all (fun e => wx_chk (wx_on wx_K9 188 e.2.2.2) rx_ro wx_nb wx_K9 20000 rx_m188 e) = true := by decide +kernel
set_option maxRecDepth 100000 in
theorem wx_k190_9 : (wx_e190).all (fun e => wx_chk (wx_on wx_K9 190 e.2.2.2) rx_ro wx_nb wx_K9 20000 rx_m190 e) = true := by decide +kernel
set_option maxRecDepth 100000 in
theorem wx_k166_9 : (wx_e166).all (fun e => wx_chk (wx_M rx_xM rx_ro wx_T 166 wx_dM wx_iK 600 3) rx_ro wx_nb wx_K9 20000 rx_m166 e) = true := by decide +kernel
set_option maxRecDepth 100000 in
theorem wx_k22_10 : (wx_e22).all (fun e => wx_chk (wx_on wx_K10 22 e.2.2.2) rx_ro wx_nb wx_K10 20000 rx_m22 e) = true := by decide +kernel
set_option maxRecDepth 100000 in
theorem wx_k91_10 : (wx_e91).all (fun e => wx_chk (wx_on wx_K10 91 e.2.2.2) rx_ro wx_nb wx_K10 20000 rx_m91 e) = true := by decide +kernel
set_option maxRecDepth 100000 in
theorem wx_k90_10 : (wx_e90).all (fun e => wx_chk (wx_on wx_K10 90 e.2.2.2) rx_ro wx_nb wx_K10 20000 rx_m90 e) = true := by decide +kernel
set_option maxRecDepth 100000 in
theorem wx_k66_10 : (wx_e66).all (fun e => wx_chk (wx_on wx_K10 66 e.2.2.2) rx_ro wx_nb wx_K10 20000 rx_m66 e) = true := by decide +kernel
set_option maxRecDepth 100000 in
theorem wx_k74_10 : (wx_e74).all (fun e => wx_chk (wx_on wx_K10 74 e.2.2.2) rx_ro wx_nb wx_K10 20000 rx_m74 e) = true := by decide +kernel
set_option maxRecDepth 100000 in
theorem wx_k62_10 : (wx_e62).all (fun e => wx_chk (wx_on wx_K10 62 e.2.2.2) rx_ro wx_nb wx_K10 20000 rx_m62 e) = true := by decide +kernel
set_option maxRecDepth 100000 in
theorem wx_k64_10 : (wx_e64).all (fun e => wx_chk (wx_on wx_K10 64 e.2.2.2) rx_ro wx_nb wx_K10 20000 rx_m64 e) = true := by decide +kernel
set_option maxRecDepth 100000 in
theorem wx_k122_10 : (wx_e122).all (fun e => wx_chk (wx_on wx_K10 122 e.2.2.2) rx_ro wx_nb wx_K10 20000 rx_m122 e) = true := by decide +kernel
set_option maxRecDepth 100000 in
theorem wx_k135_10 : (wx_e135).all (fun e => wx_chk (wx_on wx_K10 135 e.2.2.2) rx_ro wx_nb wx_K10 20000 rx_m135 e) = true := by decide +kernel
set_option maxRecDepth 100000 in
theorem wx_k160_10 : (wx_e160).all (fun e => wx_chk (wx_on wx_K10 160 e.2.2.2) rx_ro wx_nb wx_K10 20000 rx_m160 e) = true := by decide +kernel
set_option maxRecDepth 100000 in
theorem wx_k164_10 : (wx_e164).all (fun e => wx_chk (wx_on wx_K10 164 e.2.2.2) rx_ro wx_nb wx_K10 20000 rx_m164 e) = true := by decide +kernel
set_option maxRecDepth 100000 in
theorem wx_k169_10 : (wx_e169).all (fun e => wx_chk (wx_on wx_K10 169 e.2.2.2) rx_ro wx_nb wx_K10 20000 rx_m169 e) = true := by decide +kernel
set_option maxRecDepth 100000 in
theorem wx_k170_10 : (wx_e170).all (fun e => wx_chk (wx_on wx_K10 170 e.2.2.2) rx_ro wx_nb wx_K10 20000 rx_m170 e) = true := by decide +kernel
set_option maxRecDepth 100000 in
theorem wx_k178_10 : (wx_e178).all (fun e => wx_chk (wx_on wx_K10 178 e.2.2.2) rx_ro wx_nb wx_K10 20000 rx_m178 e) = true := by decide +kernel
set_option maxRecDepth 100000 in
theorem wx_k188_10 : (wx_e188).all (fun e => wx_chk (wx_on wx_K10 188 e.2.2.2) rx_ro wx_nb wx_K10 20000 rx_m188 e) = true := by decide +kernel
set_option maxRecDepth 100000 in
theorem wx_k190_10 : (wx_e190).all (fun e => wx_chk (wx_on wx_K10 190 e.2.2.2) rx_ro wx_nb wx_K10 20000 rx_m190 e) = true := by decide +kernel
set_option maxRecDepth 100000 in
theorem wx_k166_10 : (wx_e166).all (fun e => wx_chk (wx_M rx_xM rx_ro wx_T 166 wx_dM wx_iK 600 3) rx_ro wx_nb wx_K10 20000 rx_m166 e) = true := by decide +kernel
set_option maxRecDepth 100000 in
theorem wx_k22_11 : (wx_e22).all (fun e => wx_chk (wx_on wx_K11 22 e.2.2.2) rx_ro wx_nb wx_K11 20000 rx_m22 e) = true := by decide +kernel
set_option maxRecDepth 100000 in
theorem wx_k91_11 : (wx_e91).all (fun e => wx_chk (wx_on wx_K11 91 e.2.2.2) rx_ro wx_nb wx_K11 20000 rx_m91 e) = true := by decide +kernel
set_option maxRecDepth 100000 in
theorem wx_k90_11 : (wx_e90).all (fun e => wx_chk (wx_on wx_K11 90 e.2.2.2) rx_ro wx_nb wx_K11 20000 rx_m90 e) = true := by decide +kernel
set_option maxRecDepth 100000 in
theorem wx_k66_11 : (wx_e66).all (fun e => wx_chk (wx_on wx_K11 66 e.2.2.2) rx_ro wx_nb wx_K11 20000 rx_m66 e) = true := by decide +kernel
set_option maxRecDepth 100000 in
theorem wx_k74_11 : (wx_e74).all (fun e => wx_chk (wx_on wx_K11 74 e.2.2.2) rx_ro wx_nb wx_K11 20000 rx_m74 e) = true := by decide +kernel
set_option maxRecDepth 100000 in
theorem wx_k62_11 : (wx_e62).all (fun e => wx_chk (wx_on wx_K11 62 e.2.2.2) rx_ro wx_nb wx_K11 20000 rx_m62 e) = true := by decide +kernel
set_option maxRecDepth 100000 in
theorem wx_k64_11 : (wx_e64).all (fun e => wx_chk (wx_on wx_K11 64 e.2.2.2) rx_ro wx_nb wx_K11 20000 rx_m64 e) = true := by decide +kernel
set_option maxRecDepth 100000 in
theorem wx_k122_11 : (wx_e122).all (fun e => wx_chk (wx_on wx_K11 122 e.2.2.2) rx_ro wx_nb wx_K11 20000 rx_m122 e) = true := by decide +kernel
set_option maxRecDepth 100000 in
theorem wx_k135_11 : (wx_e135).all (fun e => wx_chk (wx_on wx_K11 135 e.2.2.2) rx_ro wx_nb wx_K11 20000 rx_m135 e) = true := by decide +kernel
set_option maxRecDepth 100000 in
theorem wx_k160_11 : (wx_e160).all (fun e => wx_chk (wx_on wx_K11 160 e.2.2.2) rx_ro wx_nb wx_K11 20000 rx_m160 e) = true := by decide +kernel
set_option maxRecDepth 100000 in
theorem wx_k164_11 : (wx_e164).all (fun e => wx_chk (wx_on wx_K11 164 e.2.2.2) rx_ro wx_nb wx_K11 20000 rx_m164 e) = true := by decide +kernel
set_option maxRecDepth 100000 in
theorem wx_k169_11 : (wx_e169).all (fun e => wx_chk (wx_on wx_K11 169 e.2.2.2) rx_ro wx_nb wx_K11 20000 rx_m169 e) = true := by decide +kernel
set_option maxRecDepth 100000 in
theorem wx_k170_11 : (wx_e170).all (fun e => wx_chk (wx_on wx_K11 170 e.2.2.2) rx_ro wx_nb wx_K11 20000 rx_m170 e) = true := by decide +kernel
set_option maxRecDepth 100000 in
theorem wx_k178_11 : (wx_e178).all (fun e => wx_chk (wx_on wx_K11 178 e.2.2.2) rx_ro wx_nb wx_K11 20000 rx_m178 e) = true := by decide +kernel
set_option maxRecDepth 100000 in
theorem wx_k188_11 : (wx_e188).all (fun e => wx_chk (wx_on wx_K11 188 e.2.2.2) rx_ro wx_nb wx_K11 20000 rx_m188 e) = true := by decide +kernel
set_option maxRecDepth 100000 in
theorem wx_k190_11 : (wx_e190).all (fun e => wx_chk (wx_on wx_K11 190 e.2.2.2) rx_ro wx_nb wx_K11 20000 rx_m190 e) = true := by decide +kernel
set_option maxRecDepth 100000 in
theorem wx_k166_11 : (wx_e166).all (fun e => wx_chk (wx_M rx_xM rx_ro wx_T 166 wx_dM wx_iK 600 3) rx_ro wx_nb wx_K11 20000 rx_m166 e) = true := by decide +kernel
