/-! CHECKS -/
set_option maxRecDepth 100000 in
theorem wx_k22_24 : (wx_e22).all (fun e => wx_chk (wx_on wx_K24 22 e.2.2.2) rx_ro wx_nb wx_K24 20000 rx_m22 e) = true := by decide +kernel
set_option maxRecDepth 100000 in
theorem wx_k91_24 : (wx_e91).all (fun e => wx_chk (wx_on wx_K24 91 e.2.2.2) rx_ro wx_nb wx_K24 20000 rx_m91 e) = true := by decide +kernel
set_option maxRecDepth 100000 in
theorem wx_k90_24 : (wx_e90).all (fun e => wx_chk (wx_on wx_K24 90 e.2.2.2) rx_ro wx_nb wx_K24 20000 rx_m90 e) = true := by decide +kernel
set_option maxRecDepth 100000 in
theorem wx_k66_24 : (wx_e66).all (fun e => wx_chk (wx_on wx_K24 66 e.2.2.2) rx_ro wx_nb wx_K24 20000 rx_m66 e) = true := by decide +kernel
set_option maxRecDepth 100000 in
theorem wx_k74_24 : (wx_e74).all (fun e => wx_chk (wx_on wx_K24 74 e.2.2.2) rx_ro wx_nb wx_K24 20000 rx_m74 e) = true := by decide +kernel
set_option maxRecDepth 100000 in
theorem wx_k62_24 : (wx_e62).all (fun e => wx_chk (wx_on wx_K24 62 e.2.2.2) rx_ro wx_nb wx_K24 20000 rx_m62 e) = true := by decide +kernel
set_option maxRecDepth 100000 in
theorem wx_k64_24 : (wx_e64).all (fun e => wx_chk (wx_on wx_K24 64 e.2.2.2) rx_ro wx_nb wx_K24 20000 rx_m64 e) = true := by decide +kernel
set_option maxRecDepth 100000 in
theorem wx_k122_24 : (wx_e122).all (fun e => wx_chk (wx_on wx_K24 122 e.2.2.2) rx_ro wx_nb wx_K24 20000 rx_m122 e) = true := by decide +kernel
set_option maxRecDepth 100000 in
theorem wx_k135_24 : (wx_e135).all (fun e => wx_chk (wx_on wx_K24 135 e.2.2.2) rx_ro wx_nb wx_K24 20000 rx_m135 e) = true := by decide +kernel
set_option maxRecDepth 100000 in
theorem wx_k160_24 : (wx_e160).all (fun e => wx_chk (wx_on wx_K24 160 e.2.2.2) rx_ro wx_nb wx_K24 20000 rx_m160 e) = true := by decide +kernel
set_option maxRecDepth 100000 in
theorem wx_k164_24 : (wx_e164).all (fun e => wx_chk (wx_on wx_K24 164 e.2.2.2) rx_ro wx_nb wx_K24 20000 rx_m164 e) = true := by decide +kernel
set_option maxRecDepth 100000 in
theorem wx_k169_24 : (wx_e169).all (fun e => wx_chk (wx_on wx_K24 169 e.2.2.2) rx_ro wx_nb wx_K24 20000 rx_m169 e) = true := by decide +kernel
set_option maxRecDepth 100000 in
theorem wx_k170_24 : (wx_e170).all (fun e => wx_chk (wx_on wx_K24 170 e.2.2.2) rx_ro wx_nb wx_K24 20000 rx_m170 e) = true := by decide +kernel
set_option maxRecDepth 100000 in
theorem wx_k178_24 : (wx_e178).all (fun e => wx_chk (wx_on wx_K24 178 e.2.2.2) rx_ro wx_nb wx_K24 20000 rx_m178 e) = true := by decide +kernel
set_option maxRecDepth 100000 in
theorem wx_k188_24 : (wx_e188).all (fun e => wx_chk (wx_on wx_K24 188 e.2.2.2) rx_ro wx_nb wx_K24 20000 rx_m188 e) = true := by decide +kernel
set_option maxRecDepth 100000 in
theorem wx_k190_24 : (wx_e190).all (fun e => wx_chk (wx_on wx_K24 190 e.2.2.2) rx_ro wx_nb wx_K24 20000 rx_m190 e) = true := by decide +kernel
set_option maxRecDepth 100000 in
theorem wx_k166_24 : (wx_e166).all (fun e => wx_chk (wx_M rx_xM rx_ro wx_T 166 wx_dM wx_iK 600 3) rx_ro wx_nb wx_K24 20000 rx_m166 e) = true := by decide +kernel
set_option maxRecDepth 100000 in
theorem wx_k22_25 : (wx_e22).all (fun e => wx_chk (wx_on wx_K25 22 e.2.2.2) rx_ro wx_nb wx_K25 20000 rx_m22 e) = true := by decide +kernel
set_option maxRecDepth 100000 in
theorem wx_k91_25 : (wx_e91).all (fun e => wx_chk (wx_on wx_K25 91 e.2.2.2) rx_ro wx_nb wx_K25 20000 rx_m91 e) = true := by decide +kernel
set_option maxRecDepth 100000 in
theorem wx_k90_25 : (wx_e90).all (fun e => wx_chk (wx_on wx_K25 90 e.2.2.2) rx_ro wx_nb wx_K25 20000 rx_m90 e) = true := by decide +kernel
set_option maxRecDepth 100000 in
theorem wx_k66_25 : (wx_e66).all (fun e => wx_chk (wx_on wx_K25 66 e.2.2.2) rx_ro wx_nb wx_K25 20000 rx_m66 e) = true := by decide +kernel
set_option maxRecDepth 100000 in
theorem wx_k74_25 : (wx_e74).all (fun e => wx_chk (wx_on wx_K25 74 e.2.2.2) rx_ro wx_nb wx_K25 20000 rx_m74 e) = true := by decide +kernel
set_option maxRecDepth 100000 in
theorem wx_k62_25 : (wx_e62).all (fun e => wx_chk (wx_on wx_K25 62 e.2.2.2) rx_ro wx_nb wx_K25 20000 rx_m62 e) = true := by decide +kernel
set_option maxRecDepth 100000 in
theorem wx_k64_25 : (wx_e64).all (fun e => wx_chk (wx_on wx_K25 64 e.2.2.2) rx_ro wx_nb wx_K25 20000 rx_m64 e) = true := by decide +kernel
set_option maxRecDepth 100000 in
theorem wx_k122_25 : (wx_e122).all (fun e => wx_chk (wx_on wx_K25 122 e.2.2.2) rx_ro wx_nb wx_K25 20000 rx_m122 e) = true := by decide +kernel
set_option maxRecDepth 100000 in
theorem wx_k135_25 : (wx_e135).all (fun e => wx_chk (wx_on wx_K25 135 e.2.2.2) rx_ro wx_nb wx_K25 20000 rx_m135 e) = true := by decide +kernel
set_option maxRecDepth 100000 in
theorem wx_k160_25 : (wx_e160).all (fun e => wx_chk (wx_on wx_K25 160 e.2.2.2) rx_ro wx_nb wx_K25 20000 rx_m160 e) = true := by decide +kernel
set_option maxRecDepth 100000 in
theorem wx_k164_25 : (wx_e164).all (fun e => wx_chk (wx_on wx_K25 164 e.2.2.2) rx_ro wx_nb wx_K25 20000 rx_m164 e) = true := by decide +kernel
set_option maxRecDepth 100000 in
theorem wx_k169_25 : (wx_e169).all (fun e => wx_chk (wx_on wx_K25 169 e.2.2.2) rx_ro wx_nb wx_K25 20000 rx_m169 e) = true := by decide +kernel
set_option maxRecDepth 100000 in
theorem wx_k170_25 : (wx_e170).all (fun e => wx_chk (wx_on wx_K25 170 e.2.2.2) rx_ro wx_nb wx_K25 20000 rx_m170 e) = true := by decide +kernel
set_option maxRecDepth 100000 in
theorem wx_k178_25 : (wx_e178).all (fun e => wx_chk (wx_on wx_K25 178 e.2.2.2) rx_ro wx_nb wx_K25 20000 rx_m178 e) = true := by decide +kernel
set_option maxRecDepth 100000 in
theorem wx_k188_25 : (wx_e188).all (fun e => wx_chk (wx_on wx_K25 188 e.2.2.2) rx_ro wx_nb wx_K25 20000 rx_m188 e) = true := by decide +kernel
set_option maxRecDepth 100000 in
theorem wx_k190_25 : (wx_e190).all (fun e => wx_chk (wx_on wx_K25 190 e.2.2.2) rx_ro wx_nb wx_K25 20000 rx_m190 e) = true := by decide +kernel
set_option maxRecDepth 100000 in
theorem wx_k166_25 : (wx_e166).all (fun e => wx_chk (wx_M rx_xM rx_ro wx_T 166 wx_dM wx_iK 600 3) rx_ro wx_nb wx_K25 20000 rx_m166 e) = true := by decide +kernel
set_option maxRecDepth 100000 in
theorem wx_k22_26 : (wx_e22).all (fun e => wx_chk (wx_on wx_K26 22 e.2.2.2) rx_ro wx_nb wx_K26 20000 rx_m22 e) = true := by decide +kernel
set_option maxRecDepth 100000 in
theorem wx_k91_26 : (wx_e91).all (fun e => wx_chk (wx_on wx_K26 91 e.2.2.2) rx_ro wx_nb wx_K26 20000 rx_m91 e) = true := by decide +kernel
set_option maxRecDepth 100000 in
theorem wx_k90_26 : (wx_e90).all (fun e => wx_chk (wx_on wx_K26 90 e.2.2.2) rx_ro wx_nb wx_K26 20000 rx_m90 e) = true := by decide +kernel
set_option maxRecDepth 100000 in
theorem wx_k66_26 : (wx_e66).all (fun e => wx_chk (wx_on wx_K26 66 e.2.2.2) rx_ro wx_nb wx_K26 20000 rx_m66 e) = true := by decide +kernel
set_option maxRecDepth 100000 in
theorem wx_k74_26 : (wx_e74).all (fun e => wx_chk (wx_on wx_K26 74 e.2.2.2) rx_ro wx_nb wx_K26 20000 rx_m74 e) = true := by decide +kernel
set_option maxRecDepth 100000 in
theorem wx_k62_26 : (wx_e62).all (fun e => wx_chk (wx_on wx_K26 62 e.2.2.2) rx_ro wx_nb wx_K26 20000 rx_m62 e) = true := by decide +kernel
set_option maxRecDepth 100000 in
theorem wx_k64_26 : (wx_e64).all (fun e => wx_chk (wx_on wx_K26 64 e.2.2.2) rx_ro wx_nb wx_K26 20000 rx_m64 e) = true := by decide +kernel
set_option maxRecDepth 100000 in
theorem wx_k122_26 : (wx_e122).all (fun e => wx_chk (wx_on wx_K26 122 e.2.2.2) rx_ro wx_nb wx_K26 20000 rx_m122 e) = true := by decide +kernel
set_option maxRecDepth 100000 in
theorem wx_k135_26 : (wx_e135).all (fun e => wx_chk (wx_on wx_K26 135 e.2.2.2) rx_ro wx_nb wx_K26 20000 rx_m135 e) = true := by decide +kernel
set_option maxRecDepth 100000 in
theorem wx_k160_26 : (wx_e160).all (fun e => wx_chk (wx_on wx_K26 160 e.2.2.2) rx_ro wx_nb wx_K26 20000 rx_m160 e) = true := by decide +kernel
set_option maxRecDepth 100000 in
theorem wx_k164_26 : (wx_e164).all (fun e => wx_chk (wx_on wx_K26 164 e.2.2.2) rx_ro wx_nb wx_K26 20000 rx_m164 e) = true := by decide +kernel
set_option maxRecDepth 100000 in
theorem wx_k169_26 : (wx_e169).all (fun e => wx_chk (wx_on wx_K26 169 e.2.2.2) rx_ro wx_nb wx_K26 20000 rx_m169 e) = true := by decide +kernel
set_option maxRecDepth 100000 in
theorem wx_k170_26 : (wx_e170).all (fun e => wx_chk (wx_on wx_K26 170 e.2.2.2) rx_ro wx_nb wx_K26 20000 rx_m170 e) = true := by decide +kernel
set_option maxRecDepth 100000 in
theorem wx_k178_26 : (wx_e178).all (fun e => wx_chk (wx_on wx_K26 178 e.2.2.2) rx_ro wx_nb wx_K26 20000 rx_m178 e) = true := by decide +kernel
set_option maxRecDepth 100000 in
theorem wx_k188_26 : (wx_e188).all (fun e => wx_chk (wx_on wx_K26 188 e.2.2.2) rx_ro wx_nb wx_K26 20000 rx_m188 e) = true := by decide +kernel
set_option maxRecDepth 100000 in
theorem wx_k190_26 : (wx_e190).all (fun e => wx_chk (wx_on wx_K26 190 e.2.2.2) rx_ro wx_nb wx_K26 20000 rx_m190 e) = true := by decide +kernel
set_option maxRecDepth 100000 in
theorem wx_k166_26 : (wx_e166).all (fun e => wx_chk (wx_M rx_xM rx_ro wx_T 166 wx_dM wx_iK 600 3) rx_ro wx_nb wx_K26 20000 rx_m166 e) = true := by decide +kernel
set_option maxRecDepth 100000 in
theorem wx_k22_27 : (wx_e22).all (fun e => wx_chk (wx_on wx_K27 22 e.2.2.2) rx_ro wx_nb wx_K27 20000 rx_m22 e) = true := by decide +kernel
set_option maxRecDepth 100000 in
theorem wx_k91_27 : (wx_e91).all (fun e => wx_chk (wx_on wx_K27 91 e.2.2.2) rx_ro wx_nb wx_K27 20000 rx_m91 e) = true := by decide +kernel
set_option maxRecDepth 100000 in
theorem wx_k90_27 : (wx_e90).all (fun e => wx_chk (wx_on wx_K27 90 e.2.2.2) rx_ro wx_nb wx_K27 20000 rx_m90 e) = true := by decide +kernel
set_option maxRecDepth 100000 in
theorem wx_k66_27 : (wx_e66).all (fun e => wx_chk (wx_on wx_K27 66 e.2.2.2) rx_ro wx_nb wx_K27 20000 rx_m66 e) = true := by decide +kernel
set_option maxRecDepth 100000 in
theorem wx_k74_27 : (wx_e74).all (fun e => wx_chk (wx_on wx_K27 74 e.2.2.2) rx_ro wx_nb wx_K27 20000 rx_m74 e) = true := by decide +kernel
set_option maxRecDepth 100000 in
theorem wx_k62_27 : (wx_e62).all (fun e => wx_chk (wx_on wx_K27 62 e.2.2.2) rx_ro wx_nb wx_K27 20000 rx_m62 e) = true := by decide +kernel
set_option maxRecDepth 100000 in
theorem wx_k64_27 : (wx_e64).all (fun e => wx_chk (wx_on wx_K27 64 e.2.2.2) rx_ro wx_nb wx_K27 20000 rx_m64 e) = true := by decide +kernel
set_option maxRecDepth 100000 in
theorem wx_k122_27 : (wx_e122).all (fun e => wx_chk (wx_on wx_K27 122 e.2.2.2) rx_ro wx_nb wx_K27 20000 rx_m122 e) = true := by decide +kernel
set_option maxRecDepth 100000 in
theorem wx_k135_27 : (wx_e135).all (fun e => wx_chk (wx_on wx_K27 135 e.2.2.2) rx_ro wx_nb wx_K27 20000 rx_m135 e) = true := by decide +kernel
set_option maxRecDepth 100000 in
theorem wx_k160_27 : (wx_e160).all (fun e => wx_chk (wx_on wx_K27 160 e.2.2.2) rx_ro wx_nb wx_K27 20000 rx_m160 e) = true := by decide +kernel
set_option maxRecDepth 100000 in
theorem wx_k164_27 : (wx_e164).all (fun e => wx_chk (wx_on wx_K27 164 e.2.2.2) rx_ro wx_nb wx_K27 20000 rx_m164 e) = true := by decide +kernel
set_option maxRecDepth 100000 in
theorem wx_k169_27 : (wx_e169).all (fun e => wx_chk (wx_on wx_K27 169 e.2.2.2) rx_ro wx_nb wx_K27 20000 rx_m169 e) = true := by decide +kernel
set_option maxRecDepth 100000 in
theorem wx_k170_27 : (wx_e170).all (fun e => wx_chk (wx_on wx_K27 170 e.2.2.2) rx_ro wx_nb wx_K27 20000 rx_m170 e) = true := by decide +kernel
set_option maxRecDepth 100000 in
theorem wx_k178_27 : (wx_e178).all (fun e => wx_chk (wx_on wx_K27 178 e.2.2.2) rx_ro wx_nb wx_K27 20000 rx_m178 e) = true := by decide +kernel
set_option maxRecDepth 100000 in
theorem wx_k188_27 : (wx_e188).all (fun e => wx_chk (wx_on wx_K27 188 e.2.2.2) rx_ro wx_nb wx_K27 20000 rx_m188 e) = true := by decide +kernel
set_option maxRecDepth 100000 in
theorem wx_k190_27 : (wx_e190).all (fun e => wx_chk (wx_on wx_K27 190 e.2.2.2) rx_ro wx_nb wx_K27 20000 rx_m190 e) = true := by decide +kernel
set_option maxRecDepth 100000 in
theorem wx_k166_27 : (wx_e166).all (fun e => wx_chk (wx_M rx_xM rx_ro wx_T 166 wx_dM wx_iK 600 3) rx_ro wx_nb wx_K27 20000 rx_m166 e) = true := by decide +kernel
set_option maxRecDepth 100000 in
theorem wx_k22_28 : (wx_e22).all (fun e => wx_chk (wx_on wx_K28 22 e.2.2.2) rx_ro wx_nb wx_K28 20000 rx_m22 e) = true := by decide +kernel
set_option maxRecDepth 100000 in
theorem wx_k91_28 : (wx_e91).all (fun e => wx_chk (wx_on wx_K28 91 e.2.2.2) rx_ro wx_nb wx_K28 20000 rx_m91 e) = true := by decide +kernel
set_option maxRecDepth 100000 in
theorem wx_k90_28 : (wx_e90).all (fun e => wx_chk (wx_on wx_K28 90 e.2.2.2) rx_ro wx_nb wx_K28 20000 rx_m90 e) = true := by decide +kernel
set_option maxRecDepth 100000 in
theorem wx_k66_28 : (wx_e66).all (fun e => wx_chk (wx_on wx_K28 66 e.2.2.2) rx_ro wx_nb wx_K28 20000 rx_m66 e) = true := by decide +kernel
set_option maxRecDepth 100000 in
theorem wx_k74_28 : (wx_e74).all (fun e => wx_chk (wx_on wx_K28 74 e.2.2.2) rx_ro wx_nb wx_K28 20000 rx_m74 e) = true := by decide +kernel
set_option maxRecDepth 100000 in
theorem wx_k62_28 : (wx_e62).all (fun e => wx_chk (wx_on wx_K28 62 e.2.2.2) rx_ro wx_nb wx_K28 20000 rx_m62 e) = true := by decide +kernel
set_option maxRecDepth 100000 in
theorem wx_k64_28 : (wx_e64).all (fun e => wx_chk (wx_on wx_K28 64 e.2.2.2) rx_ro wx_nb wx_K28 20000 rx_m64 e) = true := by decide +kernel
set_option maxRecDepth 100000 in
theorem wx_k122_28 : (wx_e122).all (fun e => wx_chk (wx_on wx_K28 122 e.2.2.2) rx_ro wx_nb wx_K28 20000 rx_m122 e) = true := by decide +kernel
set_option maxRecDepth 100000 in
theorem wx_k135_28 : (wx_e135).all (fun e => wx_chk (wx_on wx_K28 135 e.2.2.2) rx_ro wx_nb wx_K28 20000 rx_m135 e) = true := by decide +kernel
set_option maxRecDepth 100000 in
theorem wx_k160_28 : (wx_e160).all (fun e => wx_chk (wx_on wx_K28 160 e.2.2.2) rx_ro wx_nb wx_K28 20000 rx_m160 e) = true := by decide +kernel
set_option maxRecDepth 100000 in
theorem wx_k164_28 : (wx_e164).all (fun e => wx_chk (wx_on wx_K28 164 e.2.2.2) rx_ro wx_nb wx_K28 20000 rx_m164 e) = true := by decide +kernel
set_option maxRecDepth 100000 in
theorem wx_k169_28 : (wx_e169).all (fun e => wx_chk (wx_on wx_K28 169 e.2.2.2) rx_ro wx_nb wx_K28 20000 rx_m169 e) = true := by decide +kernel
set_option maxRecDepth 100000 in
theorem wx_k170_28 : (wx_e170).all (fun e => wx_chk (wx_on wx_K28 170 e.2.2.2) rx_ro wx_nb wx_K28 20000 rx_m170 e) = true := by decide +kernel
set_option maxRecDepth 100000 in
theorem wx_k178_28 : (wx_e178).all (fun e => wx_chk (wx_on wx_K28 178 e.2.2.2) rx_ro wx_nb wx_K28 20000 rx_m178 e) = true := by decide +kernel
set_option maxRecDepth 100000 in
theorem wx_k188_28 : (wx_e188).all (fun e => wx_chk (wx_on wx_K28 188 e.2.2.2) rx_ro wx_nb wx_K28 20000 rx_m188 e) = true := by decide +kernel
set_option maxRecDepth 100000 in
theorem wx_k190_28 : (wx_e190).all (fun e => wx_chk (wx_on wx_K28 190 e.2.2.2) rx_ro wx_nb wx_K28 20000 rx_m190 e) = true := by decide +kernel
set_option maxRecDepth 100000 in
theorem wx_k166_28 : (wx_e166).all (fun e => wx_chk (wx_M rx_xM rx_ro wx_T 166 wx_dM wx_iK 600 3) rx_ro wx_nb wx_K28 20000 rx_m166 e) = true := by decide +kernel
set_option maxRecDepth 100000 in
theorem wx_k22_29 : (wx_e22).all (fun e => wx_chk (wx_on wx_K29 22 e.2.2.2) rx_ro wx_nb wx_K29 20000 rx_m22 e) = true := by decide +kernel
set_option maxRecDepth 100000 in
theorem wx_k91_29 : (wx_e91).all (fun e => wx_chk (wx_on wx_K29 91 e.2.2.2) rx_ro wx_nb wx_K29 20000 rx_m91 e) = true := by decide +kernel
set_option maxRecDepth 100000 in
theorem wx_k90_29 : (wx_e90).all (fun e => wx_chk (wx_on wx_K29 90 e.2.2.2) rx_ro wx_nb wx_K29 20000 rx_m90 e) = true := by decide +kernel
set_option maxRecDepth 100000 in
theorem wx_k66_29 : (wx_e66).all (fun e => wx_chk (wx_on wx_K29 66 e.2.2.2) rx_ro wx_nb wx_K29 20000 rx_m66 e) = true := by decide +kernel
set_option maxRecDepth 100000 in
theorem wx_k74_29 : (wx_e74).all (fun e => wx_chk (wx_on wx_K29 74 e.2.2.2) rx_ro wx_nb wx_K29 20000 rx_m74 e) = true := by decide +kernel
set_option maxRecDepth 100000 in
theorem wx_k62_29 : (wx_e62).all (fun e => wx_chk (wx_on wx_K29 62 e.2.2.2) rx_ro wx_nb wx_K29 20000 rx_m62 e) = true := by decide +kernel
set_option maxRecDepth 100000 in
theorem wx_k64_29 : (wx_e64).all (fun e => wx_chk (wx_on wx_K29 64 e.2.2.2) rx_ro wx_nb wx_K29 20000 rx_m64 e) = true := by decide +kernel
set_option maxRecDepth 100000 in
theorem wx_k122_29 : (wx_e122).all (fun e => wx_chk (wx_on wx_K29 122 e.2.2.2) rx_ro wx_nb wx_K29 20000 rx_m122 e) = true := by decide +kernel
set_option maxRecDepth 100000 in
theorem wx_k135_29 : (wx_e135).all (fun e => wx_chk (wx_on wx_K29 135 e.2.2.2) rx_ro wx_nb wx_K29 20000 rx_m135 e) = true := by decide +kernel
set_option maxRecDepth 100000 in
theorem wx_k160_29 : (wx_e160).all (fun e => wx_chk (wx_on wx_K29 160 e.2.2.2) rx_ro wx_nb wx_K29 20000 rx_m160 e) = true := by decide +kernel
set_option maxRecDepth 100000 in
theorem wx_k164_29 : (wx_e164).all (fun e => wx_chk (wx_on wx_K29 164 e.2.2.2) rx_ro wx_nb wx_K29 20000 rx_m164 e) = true := by decide +kernel
set_option maxRecDepth 100000 in
theorem wx_k169_29 : (wx_e169).all (fun e => wx_chk (wx_on wx_K29 169 e.2.2.2) rx_ro wx_nb wx_K29 20000 rx_m169 e) = true := by decide +kernel
set_option maxRecDepth 100000 in
theorem wx_k170_29 : (wx_e170).all (fun e => wx_chk (wx_on wx_K29 170 e.2.2.2) rx_ro wx_nb wx_K29 20000 rx_m170 e) = true := by decide +kernel
set_option maxRecDepth 100000 in
theorem wx_k178_29 : (wx_e178).all (fun e => wx_chk (wx_on wx_K29 178 e.2.2.2) rx_ro wx_nb wx_K29 20000 rx_m178 e) = true := by decide +kernel
set_option maxRecDepth 100000 in
theorem wx_k188_29 : (wx_e188).all (fun e => wx_chk (wx_on wx_K29 188 e.2.2.2) rx_ro wx_nb wx_K29 20000 rx_m188 e) = true := by decide +kernel
set_option maxRecDepth 100000 in
theorem wx_k190_29 : (wx_e190).all (fun e => wx_chk (wx_on wx_K29 190 e.2.2.2) rx_ro wx_nb wx_K29 20000 rx_m190 e) = true := by decide +kernel
set_option maxRecDepth 100000 in
theorem wx_k166_29 : (wx_e166).all (fun e => wx_chk (wx_M rx_xM rx_ro wx_T 166 wx_dM wx_iK 600 3) rx_ro wx_nb wx_K29 20000 rx_m166 e) = true := by decide +kernel
