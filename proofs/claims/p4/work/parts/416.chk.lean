/-! CHECKS -/
set_option maxRecDepth 100000 in
theorem wx_k22_0 : (wx_e22).all (fun e => wx_chk (wx_on wx_K0 22 e.2.2.2) rx_ro wx_nb wx_K0 20000 rx_m22 e) = true := by decide +kernel
set_option maxRecDepth 100000 in
theorem wx_k91_0 : (wx_e91).all (fun e => wx_chk (wx_on wx_K0 91 e.2.2.2) rx_ro wx_nb wx_K0 20000 rx_m91 e) = true := by decide +kernel
set_option maxRecDepth 100000 in
theorem wx_k90_0 : (wx_e90).all (fun e => wx_chk (wx_on wx_K0 90 e.2.2.2) rx_ro wx_nb wx_K0 20000 rx_m90 e) = true := by decide +kernel
set_option maxRecDepth 100000 in
theorem wx_k66_0 : (wx_e66).all (fun e => wx_chk (wx_on wx_K0 66 e.2.2.2) rx_ro wx_nb wx_K0 20000 rx_m66 e) = true := by decide +kernel
set_option maxRecDepth 100000 in
theorem wx_k74_0 : (wx_e74).all (fun e => wx_chk (wx_on wx_K0 74 e.2.2.2) rx_ro wx_nb wx_K0 20000 rx_m74 e) = true := by decide +kernel
set_option maxRecDepth 100000 in
theorem wx_k62_0 : (wx_e62).all (fun e => wx_chk (wx_on wx_K0 62 e.2.2.2) rx_ro wx_nb wx_K0 20000 rx_m62 e) = true := by decide +kernel
set_option maxRecDepth 100000 in
theorem wx_k64_0 : (wx_e64).all (fun e => wx_chk (wx_on wx_K0 64 e.2.2.2) rx_ro wx_nb wx_K0 20000 rx_m64 e) = true := by decide +kernel
set_option maxRecDepth 100000 in
theorem wx_k122_0 : (wx_e122).all (fun e => wx_chk (wx_on wx_K0 122 e.2.2.2) rx_ro wx_nb wx_K0 20000 rx_m122 e) = true := by decide +kernel
set_option maxRecDepth 100000 in
theorem wx_k135_0 : (wx_e135).all (fun e => wx_chk (wx_on wx_K0 135 e.2.2.2) rx_ro wx_nb wx_K0 20000 rx_m135 e) = true := by decide +kernel
set_option maxRecDepth 100000 in
theorem wx_k160_0 : (wx_e160).all (fun e => wx_chk (wx_on wx_K0 160 e.2.2.2) rx_ro wx_nb wx_K0 20000 rx_m160 e) = true := by decide +kernel
set_option maxRecDepth 100000 in
theorem wx_k164_0 : (wx_e164).all (fun e => wx_chk (wx_on wx_K0 164 e.2.2.2) rx_ro wx_nb wx_K0 20000 rx_m164 e) = true := by decide +kernel
set_option maxRecDepth 100000 in
theorem wx_k169_0 : (wx_e169).all (fun e => wx_chk (wx_on wx_K0 169 e.2.2.2) rx_ro wx_nb wx_K0 20000 rx_m169 e) = true := by decide +kernel
set_option maxRecDepth 100000 in
theorem wx_k170_0 : (wx_e170).all (fun e => wx_chk (wx_on wx_K0 170 e.2.2.2) rx_ro wx_nb wx_K0 20000 rx_m170 e) = true := by decide +kernel
set_option maxRecDepth 100000 in
theorem wx_k178_0 : (wx_e178).all (fun e => wx_chk (wx_on wx_K0 178 e.2.2.2) rx_ro wx_nb wx_K0 20000 rx_m178 e) = true := by decide +kernel
set_option maxRecDepth 100000 in
theorem wx_k188_0 : (wx_e188).all (fun e => wx_chk (wx_on wx_K0 188 e.2.2.2) rx_ro wx_nb wx_K0 20000 rx_m188 e) = true := by decide +kernel
set_option maxRecDepth 100000 in
theorem wx_k190_0 : (wx_e190).all (fun e => wx_chk (wx_on wx_K0 190 e.2.2.2) rx_ro wx_nb wx_K0 20000 rx_m190 e) = true := by decide +kernel
set_option maxRecDepth 100000 in
theorem wx_k166_0 : (wx_e166).all (fun e => wx_chk (wx_M rx_xM rx_ro wx_T 166 wx_dM wx_iK 600 3) rx_ro wx_nb wx_K0 20000 rx_m166 e) = true := by decide +kernel
set_option maxRecDepth 100000 in
theorem wx_k22_1 : (wx_e22).all (fun e => wx_chk (wx_on wx_K1 22 e.2.2.2) rx_ro wx_nb wx_K1 20000 rx_m22 e) = true := by decide +kernel
set_option maxRecDepth 100000 in
theorem wx_k91_1 : (wx_e91).all (fun e => wx_chk (wx_on wx_K1 91 e.2.2.2) rx_ro wx_nb wx_K1 20000 rx_m91 e) = true := by decide +kernel
set_option maxRecDepth 100000 in
theorem wx_k90_1 : (wx_e90).all (fun e => wx_chk (wx_on wx_K1 90 e.2.2.2) rx_ro wx_nb wx_K1 20000 rx_m90 e) = true := by decide +kernel
set_option maxRecDepth 100000 in
theorem wx_k66_1 : (wx_e66).all (fun e => wx_chk (wx_on wx_K1 66 e.2.2.2) rx_ro wx_nb wx_K1 20000 rx_m66 e) = true := by decide +kernel
set_option maxRecDepth 100000 in
theorem wx_k74_1 : (wx_e74).all (fun e => wx_chk (wx_on wx_K1 74 e.2.2.2) rx_ro wx_nb wx_K1 20000 rx_m74 e) = true := by decide +kernel
set_option maxRecDepth 100000 in
theorem wx_k62_1 : (wx_e62).all (fun e => wx_chk (wx_on wx_K1 62 e.2.2.2) rx_ro wx_nb wx_K1 20000 rx_m62 e) = true := by decide +kernel
set_option maxRecDepth 100000 in
theorem wx_k64_1 : (wx_e64).all (fun e => wx_chk (wx_on wx_K1 64 e.2.2.2) rx_ro wx_nb wx_K1 20000 rx_m64 e) = true := by decide +kernel
set_option maxRecDepth 100000 in
theorem wx_k122_1 : (wx_e122).all (fun e => wx_chk (wx_on wx_K1 122 e.2.2.2) rx_ro wx_nb wx_K1 20000 rx_m122 e) = true := by decide +kernel
set_option maxRecDepth 100000 in
theorem wx_k135_1 : (wx_e135).all (fun e => wx_chk (wx_on wx_K1 135 e.2.2.2) rx_ro wx_nb wx_K1 20000 rx_m135 e) = true := by decide +kernel
set_option maxRecDepth 100000 in
theorem wx_k160_1 : (wx_e160).all (fun e => wx_chk (wx_on wx_K1 160 e.2.2.2) rx_ro wx_nb wx_K1 20000 rx_m160 e) = true := by decide +kernel
set_option maxRecDepth 100000 in
theorem wx_k164_1 : (wx_e164).all (fun e => wx_chk (wx_on wx_K1 164 e.2.2.2) rx_ro wx_nb wx_K1 20000 rx_m164 e) = true := by decide +kernel
set_option maxRecDepth 100000 in
theorem wx_k169_1 : (wx_e169).all (fun e => wx_chk (wx_on wx_K1 169 e.2.2.2) rx_ro wx_nb wx_K1 20000 rx_m169 e) = true := by decide +kernel
set_option maxRecDepth 100000 in
theorem wx_k170_1 : (wx_e170).all (fun e => wx_chk (wx_on wx_K1 170 e.2.2.2) rx_ro wx_nb wx_K1 20000 rx_m170 e) = true := by decide +kernel
set_option maxRecDepth 100000 in
theorem wx_k178_1 : (wx_e178).all (fun e => wx_chk (wx_on wx_K1 178 e.2.2.2) rx_ro wx_nb wx_K1 20000 rx_m178 e) = true := by decide +kernel
set_option maxRecDepth 100000 in
theorem wx_k188_1 : (wx_e188).all (fun e => wx_chk (wx_on wx_K1 188 e.2.2.2) rx_ro wx_nb wx_K1 20000 rx_m188 e) = true := by decide +kernel
set_option maxRecDepth 100000 in
theorem wx_k190_1 : (wx_e190).all (fun e => wx_chk (wx_on wx_K1 190 e.2.2.2) rx_ro wx_nb wx_K1 20000 rx_m190 e) = true := by decide +kernel
set_option maxRecDepth 100000 in
theorem wx_k166_1 : (wx_e166).all (fun e => wx_chk (wx_M rx_xM rx_ro wx_T 166 wx_dM wx_iK 600 3) rx_ro wx_nb wx_K1 20000 rx_m166 e) = true := by decide +kernel
set_option maxRecDepth 100000 in
theorem wx_k22_2 : (wx_e22).all (fun e => wx_chk (wx_on wx_K2 22 e.2.2.2) rx_ro wx_nb wx_K2 20000 rx_m22 e) = true := by decide +kernel
set_option maxRecDepth 100000 in
theorem wx_k91_2 : (wx_e91).all (fun e => wx_chk (wx_on wx_K2 91 e.2.2.2) rx_ro wx_nb wx_K2 20000 rx_m91 e) = true := by decide +kernel
set_option maxRecDepth 100000 in
theorem wx_k90_2 : (wx_e90).all (fun e => wx_chk (wx_on wx_K2 90 e.2.2.2) rx_ro wx_nb wx_K2 20000 rx_m90 e) = true := by decide +kernel
set_option maxRecDepth 100000 in
theorem wx_k66_2 : (wx_e66).all (fun e => wx_chk (wx_on wx_K2 66 e.2.2.2) rx_ro wx_nb wx_K2 20000 rx_m66 e) = true := by decide +kernel
set_option maxRecDepth 100000 in
theorem wx_k74_2 : (wx_e74).all (fun e => wx_chk (wx_on wx_K2 74 e.2.2.2) rx_ro wx_nb wx_K2 20000 rx_m74 e) = true := by decide +kernel
set_option maxRecDepth 100000 in
theorem wx_k62_2 : (wx_e62).all (fun e => wx_chk (wx_on wx_K2 62 e.2.2.2) rx_ro wx_nb wx_K2 20000 rx_m62 e) = true := by decide +kernel
set_option maxRecDepth 100000 in
theorem wx_k64_2 : (wx_e64).all (fun e => wx_chk (wx_on wx_K2 64 e.2.2.2) rx_ro wx_nb wx_K2 20000 rx_m64 e) = true := by decide +kernel
set_option maxRecDepth 100000 in
theorem wx_k122_2 : (wx_e122).all (fun e => wx_chk (wx_on wx_K2 122 e.2.2.2) rx_ro wx_nb wx_K2 20000 rx_m122 e) = true := by decide +kernel
set_option maxRecDepth 100000 in
theorem wx_k135_2 : (wx_e135).all (fun e => wx_chk (wx_on wx_K2 135 e.2.2.2) rx_ro wx_nb wx_K2 20000 rx_m135 e) = true := by decide +kernel
set_option maxRecDepth 100000 in
theorem wx_k160_2 : (wx_e160).all (fun e => wx_chk (wx_on wx_K2 160 e.2.2.2) rx_ro wx_nb wx_K2 20000 rx_m160 e) = true := by decide +kernel
set_option maxRecDepth 100000 in
theorem wx_k164_2 : (wx_e164).all (fun e => wx_chk (wx_on wx_K2 164 e.2.2.2) rx_ro wx_nb wx_K2 20000 rx_m164 e) = true := by decide +kernel
set_option maxRecDepth 100000 in
theorem wx_k169_2 : (wx_e169).all (fun e => wx_chk (wx_on wx_K2 169 e.2.2.2) rx_ro wx_nb wx_K2 20000 rx_m169 e) = true := by decide +kernel
set_option maxRecDepth 100000 in
theorem wx_k170_2 : (wx_e170).all (fun e => wx_chk (wx_on wx_K2 170 e.2.2.2) rx_ro wx_nb wx_K2 20000 rx_m170 e) = true := by decide +kernel
set_option maxRecDepth 100000 in
theorem wx_k178_2 : (wx_e178).all (fun e => wx_chk (wx_on wx_K2 178 e.2.2.2) rx_ro wx_nb wx_K2 20000 rx_m178 e) = true := by decide +kernel
set_option maxRecDepth 100000 in
theorem wx_k188_2 : (wx_e188).all (fun e => wx_chk (wx_on wx_K2 188 e.2.2.2) rx_ro wx_nb wx_K2 20000 rx_m188 e) = true := by decide +kernel
set_option maxRecDepth 100000 in
theorem wx_k190_2 : (wx_e190).all (fun e => wx_chk (wx_on wx_K2 190 e.2.2.2) rx_ro wx_nb wx_K2 20000 rx_m190 e) = true := by decide +kernel
set_option maxRecDepth 100000 in
theorem wx_k166_2 : (wx_e166).all (fun e => wx_chk (wx_M rx_xM rx_ro wx_T 166 wx_dM wx_iK 600 3) rx_ro wx_nb wx_K2 20000 rx_m166 e) = true := by decide +kernel
set_option maxRecDepth 100000 in
theorem wx_k22_3 : (wx_e22).all (fun e => wx_chk (wx_on wx_K3 22 e.2.2.2) rx_ro wx_nb wx_K3 20000 rx_m22 e) = true := by decide +kernel
set_option maxRecDepth 100000 in
theorem wx_k91_3 : (wx_e91).all (fun e => wx_chk (wx_on wx_K3 91 e.2.2.2) rx_ro wx_nb wx_K3 20000 rx_m91 e) = true := by decide +kernel
set_option maxRecDepth 100000 in
theorem wx_k90_3 : (wx_e90).all (fun e => wx_chk (wx_on wx_K3 90 e.2.2.2) rx_ro wx_nb wx_K3 20000 rx_m90 e) = true := by decide +kernel
set_option maxRecDepth 100000 in
theorem wx_k66_3 : (wx_e66).all (fun e => wx_chk (wx_on wx_K3 66 e.2.2.2) rx_ro wx_nb wx_K3 20000 rx_m66 e) = true := by decide +kernel
set_option maxRecDepth 100000 in
theorem wx_k74_3 : (wx_e74).all (fun e => wx_chk (wx_on wx_K3 74 e.2.2.2) rx_ro wx_nb wx_K3 20000 rx_m74 e) = true := by decide +kernel
set_option maxRecDepth 100000 in
theorem wx_k62_3 : (wx_e62).all (fun e => wx_chk (wx_on wx_K3 62 e.2.2.2) rx_ro wx_nb wx_K3 20000 rx_m62 e) = true := by decide +kernel
set_option maxRecDepth 100000 in
theorem wx_k64_3 : (wx_e64).all (fun e => wx_chk (wx_on wx_K3 64 e.2.2.2) rx_ro wx_nb wx_K3 20000 rx_m64 e) = true := by decide +kernel
set_option maxRecDepth 100000 in
theorem wx_k122_3 : (wx_e122).all (fun e => wx_chk (wx_on wx_K3 122 e.2.2.2) rx_ro wx_nb wx_K3 20000 rx_m122 e) = true := by decide +kernel
set_option maxRecDepth 100000 in
theorem wx_k135_3 : (wx_e135).all (fun e => wx_chk (wx_on wx_K3 135 e.2.2.2) rx_ro wx_nb wx_K3 20000 rx_m135 e) = true := by decide +kernel
set_option maxRecDepth 100000 in
theorem wx_k160_3 : (wx_e160).all (fun e => wx_chk (wx_on wx_K3 160 e.2.2.2) rx_ro wx_nb wx_K3 20000 rx_m160 e) = true := by decide +kernel
set_option maxRecDepth 100000 in
theorem wx_k164_3 : (wx_e164).all (fun e => wx_chk (wx_on wx_K3 164 e.2.2.2) rx_ro wx_nb wx_K3 20000 rx_m164 e) = true := by decide +kernel
set_option maxRecDepth 100000 in
theorem wx_k169_3 : (wx_e169).all (fun e => wx_chk (wx_on wx_K3 169 e.2.2.2) rx_ro wx_nb wx_K3 20000 rx_m169 e) = true := by decide +kernel
set_option maxRecDepth 100000 in
theorem wx_k170_3 : (wx_e170).all (fun e => wx_chk (wx_on wx_K3 170 e.2.2.2) rx_ro wx_nb wx_K3 20000 rx_m170 e) = true := by decide +kernel
set_option maxRecDepth 100000 in
theorem wx_k178_3 : (wx_e178).all (fun e => wx_chk (wx_on wx_K3 178 e.2.2.2) rx_ro wx_nb wx_K3 20000 rx_m178 e) = true := by decide +kernel
set_option maxRecDepth 100000 in
theorem wx_k188_3 : (wx_e188).all (fun e => wx_chk (wx_on wx_K3 188 e.2.2.2) rx_ro wx_nb wx_K3 20000 rx_m188 e) = true := by decide +kernel
set_option maxRecDepth 100000 in
theorem wx_k190_3 : (wx_e190).all (fun e => wx_chk (wx_on wx_K3 190 e.2.2.2) rx_ro wx_nb wx_K3 20000 rx_m190 e) = true := by decide +kernel
set_option maxRecDepth 100000 in
theorem wx_k166_3 : (wx_e166).all (fun e => wx_chk (wx_M rx_xM rx_ro wx_T 166 wx_dM wx_iK 600 3) rx_ro wx_nb wx_K3 20000 rx_m166 e) = true := by decide +kernel
set_option maxRecDepth 100000 in
theorem wx_k22_4 : (wx_e22).all (fun e => wx_chk (wx_on wx_K4 22 e.2.2.2) rx_ro wx_nb wx_K4 20000 rx_m22 e) = true := by decide +kernel
set_option maxRecDepth 100000 in
theorem wx_k91_4 : (wx_e91).all (fun e => wx_chk (wx_on wx_K4 91 e.2.2.2) rx_ro wx_nb wx_K4 20000 rx_m91 e) = true := by decide +kernel
set_option maxRecDepth 100000 in
theorem wx_k90_4 : (wx_e90).all (fun e => wx_chk (wx_on wx_K4 90 e.2.2.2) rx_ro wx_nb wx_K4 20000 rx_m90 e) = true := by decide +kernel
set_option maxRecDepth 100000 in
theorem wx_k66_4 : (wx_e66).all (fun e => wx_chk (wx_on wx_K4 66 e.2.2.2) rx_ro wx_nb wx_K4 20000 rx_m66 e) = true := by decide +kernel
set_option maxRecDepth 100000 in
theorem wx_k74_4 : (wx_e74).all (fun e => wx_chk (wx_on wx_K4 74 e.2.2.2) rx_ro wx_nb wx_K4 20000 rx_m74 e) = true := by decide +kernel
set_option maxRecDepth 100000 in
theorem wx_k62_4 : (wx_e62).all (fun e => wx_chk (wx_on wx_K4 62 e.2.2.2) rx_ro wx_nb wx_K4 20000 rx_m62 e) = true := by decide +kernel
set_option maxRecDepth 100000 in
theorem wx_k64_4 : (wx_e64).all (fun e => wx_chk (wx_on wx_K4 64 e.2.2.2) rx_ro wx_nb wx_K4 20000 rx_m64 e) = true := by decide +kernel
set_option maxRecDepth 100000 in
theorem wx_k122_4 : (wx_e122).all (fun e => wx_chk (wx_on wx_K4 122 e.2.2.2) rx_ro wx_nb wx_K4 20000 rx_m122 e) = true := by decide +kernel
set_option maxRecDepth 100000 in
theorem wx_k135_4 : (wx_e135).all (fun e => wx_chk (wx_on wx_K4 135 e.2.2.2) rx_ro wx_nb wx_K4 20000 rx_m135 e) = true := by decide +kernel
set_option maxRecDepth 100000 in
theorem wx_k160_4 : (wx_e160).all (fun e => wx_chk (wx_on wx_K4 160 e.2.2.2) rx_ro wx_nb wx_K4 20000 rx_m160 e) = true := by decide +kernel
set_option maxRecDepth 100000 in
theorem wx_k164_4 : (wx_e164).all (fun e => wx_chk (wx_on wx_K4 164 e.2.2.2) rx_ro wx_nb wx_K4 20000 rx_m164 e) = true := by decide +kernel
set_option maxRecDepth 100000 in
theorem wx_k169_4 : (wx_e169).all (fun e => wx_chk (wx_on wx_K4 169 e.2.2.2) rx_ro wx_nb wx_K4 20000 rx_m169 e) = true := by decide +kernel
set_option maxRecDepth 100000 in
theorem wx_k170_4 : (wx_e170).all (fun e => wx_chk (wx_on wx_K4 170 e.2.2.2) rx_ro wx_nb wx_K4 20000 rx_m170 e) = true := by decide +kernel
set_option maxRecDepth 100000 in
theorem wx_k178_4 : (wx_e178).all (fun e => wx_chk (wx_on wx_K4 178 e.2.2.2) rx_ro wx_nb wx_K4 20000 rx_m178 e) = true := by decide +kernel
set_option maxRecDepth 100000 in
theorem wx_k188_4 : (wx_e188).all (fun e => wx_chk (wx_on wx_K4 188 e.2.2.2) rx_ro wx_nb wx_K4 20000 rx_m188 e) = true := by decide +kernel
set_option maxRecDepth 100000 in
theorem wx_k190_4 : (wx_e190).all (fun e => wx_chk (wx_on wx_K4 190 e.2.2.2) rx_ro wx_nb wx_K4 20000 rx_m190 e) = true := by decide +kernel
set_option maxRecDepth 100000 in
theorem wx_k166_4 : (wx_e166).all (fun e => wx_chk (wx_M rx_xM rx_ro wx_T 166 wx_dM wx_iK 600 3) rx_ro wx_nb wx_K4 20000 rx_m166 e) = true := by decide +kernel
set_option maxRecDepth 100000 in
theorem wx_k22_5 : (wx_e22).all (fun e => wx_chk (wx_on wx_K5 22 e.2.2.2) rx_ro wx_nb wx_K5 20000 rx_m22 e) = true := by decide +kernel
set_option maxRecDepth 100000 in
theorem wx_k91_5 : (wx_e91).all (fun e => wx_chk (wx_on wx_K5 91 e.2.2.2) rx_ro wx_nb wx_K5 20000 rx_m91 e) = true := by decide +kernel
set_option maxRecDepth 100000 in
theorem wx_k90_5 : (wx_e90).all (fun e => wx_chk (wx_on wx_K5 90 e.2.2.2) rx_ro wx_nb wx_K5 20000 rx_m90 e) = true := by decide +kernel
set_option maxRecDepth 100000 in
theorem wx_k66_5 : (wx_e66).all (fun e => wx_chk (wx_on wx_K5 66 e.2.2.2) rx_ro wx_nb wx_K5 20000 rx_m66 e) = true := by decide +kernel
set_option maxRecDepth 100000 in
theorem wx_k74_5 : (wx_e74).all (fun e => wx_chk (wx_on wx_K5 74 e.2.2.2) rx_ro wx_nb wx_K5 20000 rx_m74 e) = true := by decide +kernel
set_option maxRecDepth 100000 in
theorem wx_k62_5 : (wx_e62).all (fun e => wx_chk (wx_on wx_K5 62 e.2.2.2) rx_ro wx_nb wx_K5 20000 rx_m62 e) = true := by decide +kernel
set_option maxRecDepth 100000 in
theorem wx_k64_5 : (wx_e64).all (fun e => wx_chk (wx_on wx_K5 64 e.2.2.2) rx_ro wx_nb wx_K5 20000 rx_m64 e) = true := by decide +kernel
set_option maxRecDepth 100000 in
theorem wx_k122_5 : (wx_e122).all (fun e => wx_chk (wx_on wx_K5 122 e.2.2.2) rx_ro wx_nb wx_K5 20000 rx_m122 e) = true := by decide +kernel
set_option maxRecDepth 100000 in
theorem wx_k135_5 : (wx_e135).all (fun e => wx_chk (wx_on wx_K5 135 e.2.2.2) rx_ro wx_nb wx_K5 20000 rx_m135 e) = true := by decide +kernel
set_option maxRecDepth 100000 in
theorem wx_k160_5 : (wx_e160).all (fun e => wx_chk (wx_on wx_K5 160 e.2.2.2) rx_ro wx_nb wx_K5 20000 rx_m160 e) = true := by decide +kernel
set_option maxRecDepth 100000 in
theorem wx_k164_5 : (wx_e164).all (fun e => wx_chk (wx_on wx_K5 164 e.2.2.2) rx_ro wx_nb wx_K5 20000 rx_m164 e) = true := by decide +kernel
set_option maxRecDepth 100000 in
theorem wx_k169_5 : (wx_e169).all (fun e => wx_chk (wx_on wx_K5 169 e.2.2.2) rx_ro wx_nb wx_K5 20000 rx_m169 e) = true := by decide +kernel
set_option maxRecDepth 100000 in
theorem wx_k170_5 : (wx_e170).all (fun e => wx_chk (wx_on wx_K5 170 e.2.2.2) rx_ro wx_nb wx_K5 20000 rx_m170 e) = true := by decide +kernel
set_option maxRecDepth 100000 in
theorem wx_k178_5 : (wx_e178).all (fun e => wx_chk (wx_on wx_K5 178 e.2.2.2) rx_ro wx_nb wx_K5 20000 rx_m178 e) = true := by decide +kernel
set_option maxRecDepth 100000 in
theorem wx_k188_5 : (wx_e188).all (fun e => wx_chk (wx_on wx_K5 188 e.2.2.2) rx_ro wx_nb wx_K5 20000 rx_m188 e) = true := by decide +kernel
set_option maxRecDepth 100000 in
theorem wx_k190_5 : (wx_e190).all (fun e => wx_chk (wx_on wx_K5 190 e.2.2.2) rx_ro wx_nb wx_K5 20000 rx_m190 e) = true := by decide +kernel
set_option maxRecDepth 100000 in
theorem wx_k166_5 : (wx_e166).all (fun e => wx_chk (wx_M rx_xM rx_ro wx_T 166 wx_dM wx_iK 600 3) rx_ro wx_nb wx_K5 20000 rx_m166 e) = true := by decide +kernel
