/-! CHECKS -/
set_option maxRecDepth 100000 in
theorem wx_k22_12 : (wx_e22).all (fun e => wx_chk (wx_on wx_K12 22 e.2.2.2) rx_ro wx_nb wx_K12 20000 rx_m22 e) = true := by decide +kernel
set_option maxRecDepth 100000 in
theorem wx_k91_12 : (wx_e91).all (fun e => wx_chk (wx_on wx_K12 91 e.2.2.2) rx_ro wx_nb wx_K12 20000 rx_m91 e) = true := by decide +kernel
set_option maxRecDepth 100000 in
theorem wx_k90_12 : (wx_e90).all (fun e => wx_chk (wx_on wx_K12 90 e.2.2.2) rx_ro wx_nb wx_K12 20000 rx_m90 e) = true := by decide +kernel
set_option maxRecDepth 100000 in
theorem wx_k66_12 : (wx_e66).all (fun e => wx_chk (wx_on wx_K12 66 e.2.2.2) rx_ro wx_nb wx_K12 20000 rx_m66 e) = true := by decide +kernel
set_option maxRecDepth 100000 in
theorem wx_k74_12 : (wx_e74).all (fun e => wx_chk (wx_on wx_K12 74 e.2.2.2) rx_ro wx_nb wx_K12 20000 rx_m74 e) = true := by decide +kernel
set_option maxRecDepth 100000 in
theorem wx_k62_12 : (wx_e62).all (fun e => wx_chk (wx_on wx_K12 62 e.2.2.2) rx_ro wx_nb wx_K12 20000 rx_m62 e) = true := by decide +kernel
set_option maxRecDepth 100000 in
theorem wx_k64_12 : (wx_e64).all (fun e => wx_chk (wx_on wx_K12 64 e.2.2.2) rx_ro wx_nb wx_K12 20000 rx_m64 e) = true := by decide +kernel
set_option maxRecDepth 100000 in
theorem wx_k122_12 : (wx_e122).all (fun e => wx_chk (wx_on wx_K12 122 e.2.2.2) rx_ro wx_nb wx_K12 20000 rx_m122 e) = true := by decide +kernel
set_option maxRecDepth 100000 in
theorem wx_k135_12 : (wx_e135).all (fun e => wx_chk (wx_on wx_K12 135 e.2.2.2) rx_ro wx_nb wx_K12 20000 rx_m135 e) = true := by decide +kernel
set_option maxRecDepth 100000 in
theorem wx_k160_12 : (wx_e160).all (fun e => wx_chk (wx_on wx_K12 160 e.2.2.2) rx_ro wx_nb wx_K12 20000 rx_m160 e) = true := by decide +kernel
set_option maxRecDepth 100000 in
theorem wx_k164_12 : (wx_e164).all (fun e => wx_chk (wx_on wx_K12 164 e.2.2.2) rx_ro wx_nb wx_K12 20000 rx_m164 e) = true := by decide +kernel
set_option maxRecDepth 100000 in
theorem wx_k169_12 : (wx_e169).all (fun e => wx_chk (wx_on wx_K12 169 e.2.2.2) rx_ro wx_nb wx_K12 20000 rx_m169 e) = true := by decide +kernel
set_option maxRecDepth 100000 in
theorem wx_k170_12 : (wx_e170).all (fun e => wx_chk (wx_on wx_K12 170 e.2.2.2) rx_ro wx_nb wx_K12 20000 rx_m170 e) = true := by decide +kernel
set_option maxRecDepth 100000 in
theorem wx_k178_12 : (wx_e178).all (fun e => wx_chk (wx_on wx_K12 178 e.2.2.2) rx_ro wx_nb wx_K12 20000 rx_m178 e) = true := by decide +kernel
set_option maxRecDepth 100000 in
theorem wx_k188_12 : (wx_e188).all (fun e => wx_chk (wx_on wx_K12 188 e.2.2.2) rx_ro wx_nb wx_K12 20000 rx_m188 e) = true := by decide +kernel
set_option maxRecDepth 100000 in
theorem wx_k190_12 : (wx_e190).all (fun e => wx_chk (wx_on wx_K12 190 e.2.2.2) rx_ro wx_nb wx_K12 20000 rx_m190 e) = true := by decide +kernel
set_option maxRecDepth 100000 in
theorem wx_k166_12 : (wx_e166).all (fun e => wx_chk (wx_M rx_xM rx_ro wx_T 166 wx_dM wx_iK 600 3) rx_ro wx_nb wx_K12 20000 rx_m166 e) = true := by decide +kernel
set_option maxRecDepth 100000 in
theorem wx_k22_13 : (wx_e22).all (fun e => wx_chk (wx_on wx_K13 22 e.2.2.2) rx_ro wx_nb wx_K13 20000 rx_m22 e) = true := by decide +kernel
set_option maxRecDepth 100000 in
theorem wx_k91_13 : (wx_e91).all (fun e => wx_chk (wx_on wx_K13 91 e.2.2.2) rx_ro wx_nb wx_K13 20000 rx_m91 e) = true := by decide +kernel
set_option maxRecDepth 100000 in
theorem wx_k90_13 : (wx_e90).all (fun e => wx_chk (wx_on wx_K13 90 e.2.2.2) rx_ro wx_nb wx_K13 20000 rx_m90 e) = true := by decide +kernel
set_option maxRecDepth 100000 in
theorem wx_k66_13 : (wx_e66).all (fun e => wx_chk (wx_on wx_K13 66 e.2.2.2) rx_ro wx_nb wx_K13 20000 rx_m66 e) = true := by decide +kernel
set_option maxRecDepth 100000 in
theorem wx_k74_13 : (wx_e74).all (fun e => wx_chk (wx_on wx_K13 74 e.2.2.2) rx_ro wx_nb wx_K13 20000 rx_m74 e) = true := by decide +kernel
set_option maxRecDepth 100000 in
theorem wx_k62_13 : (wx_e62).all (fun e => wx_chk (wx_on wx_K13 62 e.2.2.2) rx_ro wx_nb wx_K13 20000 rx_m62 e) = true := by decide +kernel
set_option maxRecDepth 100000 in
theorem wx_k64_13 : (wx_e64).all (fun e => wx_chk (wx_on wx_K13 64 e.2.2.2) rx_ro wx_nb wx_K13 20000 rx_m64 e) = true := by decide +kernel
set_option maxRecDepth 100000 in
theorem wx_k122_13 : (wx_e122).all (fun e => wx_chk (wx_on wx_K13 122 e.2.2.2) rx_ro wx_nb wx_K13 20000 rx_m122 e) = true := by decide +kernel
set_option maxRecDepth 100000 in
theorem wx_k135_13 : (wx_e135).all (fun e => wx_chk (wx_on wx_K13 135 e.2.2.2) rx_ro wx_nb wx_K13 20000 rx_m135 e) = true := by decide +kernel
set_option maxRecDepth 100000 in
theorem wx_k160_13 : (wx_e160).all (fun e => wx_chk (wx_on wx_K13 160 e.2.2.2) rx_ro wx_nb wx_K13 20000 rx_m160 e) = true := by decide +kernel
set_option maxRecDepth 100000 in
theorem wx_k164_13 : (wx_e164).all (fun e => wx_chk (wx_on wx_K13 164 e.2.2.2) rx_ro wx_nb wx_K13 20000 rx_m164 e) = true := by decide +kernel
set_option maxRecDepth 100000 in
theorem wx_k169_13 : (wx_e169).all (fun e => wx_chk (wx_on wx_K13 169 e.2.2.2) rx_ro wx_nb wx_K13 20000 rx_m169 e) = true := by decide +kernel
set_option maxRecDepth 100000 in
theorem wx_k170_13 : (wx_e170).all (fun e => wx_chk (wx_on wx_K13 170 e.2.2.2) rx_ro wx_nb wx_K13 20000 rx_m170 e) = true := by decide +kernel
set_option maxRecDepth 100000 in
theorem wx_k178_13 : (wx_e178).all (fun e => wx_chk (wx_on wx_K13 178 e.2.2.2) rx_ro wx_nb wx_K13 20000 rx_m178 e) = true := by decide +kernel
set_option maxRecDepth 100000 in
theorem wx_k188_13 : (wx_e188).all (fun e => wx_chk (wx_on wx_K13 188 e.2.2.2) rx_ro wx_nb wx_K13 20000 rx_m188 e) = true := by decide +kernel
set_option maxRecDepth 100000 in
theorem wx_k190_13 : (wx_e190).all (fun e => wx_chk (wx_on wx_K13 190 e.2.2.2) rx_ro wx_nb wx_K13 20000 rx_m190 e) = true := by decide +kernel
set_option maxRecDepth 100000 in
theorem wx_k166_13 : (wx_e166).all (fun e => wx_chk (wx_M rx_xM rx_ro wx_T 166 wx_dM wx_iK 600 3) rx_ro wx_nb wx_K13 20000 rx_m166 e) = true := by decide +kernel
set_option maxRecDepth 100000 in
theorem wx_k22_14 : (wx_e22).all (fun e => wx_chk (wx_on wx_K14 22 e.2.2.2) rx_ro wx_nb wx_K14 20000 rx_m22 e) = true := by decide +kernel
set_option maxRecDepth 100000 in
theorem wx_k91_14 : (wx_e91).all (fun e => wx_chk (wx_on wx_K14 91 e.2.2.2) rx_ro wx_nb wx_K14 20000 rx_m91 e) = true := by decide +kernel
set_option maxRecDepth 100000 in
theorem wx_k90_14 : (wx_e90).all (fun e => wx_chk (wx_on wx_K14 90 e.2.2.2) rx_ro wx_nb wx_K14 20000 rx_m90 e) = true := by decide +kernel
set_option maxRecDepth 100000 in
theorem wx_k66_14 : (wx_e66).all (fun e => wx_chk (wx_on wx_K14 66 e.2.2.2) rx_ro wx_nb wx_K14 20000 rx_m66 e) = true := by decide +kernel
set_option maxRecDepth 100000 in
theorem wx_k74_14 : (wx_e74).all (fun e => wx_chk (wx_on wx_K14 74 e.2.2.2) rx_ro wx_nb wx_K14 20000 rx_m74 e) = true := by decide +kernel
set_option maxRecDepth 100000 in
theorem wx_k62_14 : (wx_e62).all (fun e => wx_chk (wx_on wx_K14 62 e.2.2.2) rx_ro wx_nb wx_K14 20000 rx_m62 e) = true := by decide +kernel
set_option maxRecDepth 100000 in
theorem wx_k64_14 : (wx_e64).all (fun e => wx_chk (wx_on wx_K14 64 e.2.2.2) rx_ro wx_nb wx_K14 20000 rx_m64 e) = true := by decide +kernel
set_option maxRecDepth 100000 in
theorem wx_k122_14 : (wx_e122).all (fun e => wx_chk (wx_on wx_K14 122 e.2.2.2) rx_ro wx_nb wx_K14 20000 rx_m122 e) = true := by decide +kernel
set_option maxRecDepth 100000 in
theorem wx_k135_14 : (wx_e135).all (fun e => wx_chk (wx_on wx_K14 135 e.2.2.2) rx_ro wx_nb wx_K14 20000 rx_m135 e) = true := by decide +kernel
set_option maxRecDepth 100000 in
theorem wx_k160_14 : (wx_e160).all (fun e => wx_chk (wx_on wx_K14 160 e.2.2.2) rx_ro wx_nb wx_K14 20000 rx_m160 e) = true := by decide +kernel
set_option maxRecDepth 100000 in
theorem wx_k164_14 : (wx_e164).all (fun e => wx_chk (wx_on wx_K14 164 e.2.2.2) rx_ro wx_nb wx_K14 20000 rx_m164 e) = true := by decide +kernel
set_option maxRecDepth 100000 in
theorem wx_k169_14 : (wx_e169).all (fun e => wx_chk (wx_on wx_K14 169 e.2.2.2) rx_ro wx_nb wx_K14 20000 rx_m169 e) = true := by decide +kernel
set_option maxRecDepth 100000 in
theorem wx_k170_14 : (wx_e170).all (fun e => wx_chk (wx_on wx_K14 170 e.2.2.2) rx_ro wx_nb wx_K14 20000 rx_m170 e) = true := by decide +kernel
set_option maxRecDepth 100000 in
theorem wx_k178_14 : (wx_e178).all (fun e => wx_chk (wx_on wx_K14 178 e.2.2.2) rx_ro wx_nb wx_K14 20000 rx_m178 e) = true := by decide +kernel
set_option maxRecDepth 100000 in
theorem wx_k188_14 : (wx_e188).all (fun e => wx_chk (wx_on wx_K14 188 e.2.2.2) rx_ro wx_nb wx_K14 20000 rx_m188 e) = true := by decide +kernel
set_option maxRecDepth 100000 in
theorem wx_k190_14 : (wx_e190).all (fun e => wx_chk (wx_on wx_K14 190 e.2.2.2) rx_ro wx_nb wx_K14 20000 rx_m190 e) = true := by decide +kernel
set_option maxRecDepth 100000 in
theorem wx_k166_14 : (wx_e166).all (fun e => wx_chk (wx_M rx_xM rx_ro wx_T 166 wx_dM wx_iK 600 3) rx_ro wx_nb wx_K14 20000 rx_m166 e) = true := by decide +kernel
set_option maxRecDepth 100000 in
theorem wx_k22_15 : (wx_e22).all (fun e => wx_chk (wx_on wx_K15 22 e.2.2.2) rx_ro wx_nb wx_K15 20000 rx_m22 e) = true := by decide +kernel
set_option maxRecDepth 100000 in
theorem wx_k91_15 : (wx_e91).all (fun e => wx_chk (wx_on wx_K15 91 e.2.2.2) rx_ro wx_nb wx_K15 20000 rx_m91 e) = true := by decide +kernel
set_option maxRecDepth 100000 in
theorem wx_k90_15 : (wx_e90).all (fun e => wx_chk (wx_on wx_K15 90 e.2.2.2) rx_ro wx_nb wx_K15 20000 rx_m90 e) = true := by decide +kernel
set_option maxRecDepth 100000 in
theorem wx_k66_15 : (wx_e66).all (fun e => wx_chk (wx_on wx_K15 66 e.2.2.2) rx_ro wx_nb wx_K15 20000 rx_m66 e) = true := by decide +kernel
set_option maxRecDepth 100000 in
theorem wx_k74_15 : (wx_e74).all (fun e => wx_chk (wx_on wx_K15 74 e.2.2.2) rx_ro wx_nb wx_K15 20000 rx_m74 e) = true := by decide +kernel
set_option maxRecDepth 100000 in
theorem wx_k62_15 : (wx_e62).all (fun e => wx_chk (wx_on wx_K15 62 e.2.2.2) rx_ro wx_nb wx_K15 20000 rx_m62 e) = true := by decide +kernel
set_option maxRecDepth 100000 in
theorem wx_k64_15 : (wx_e64).all (fun e => wx_chk (wx_on wx_K15 64 e.2.2.2) rx_ro wx_nb wx_K15 20000 rx_m64 e) = true := by decide +kernel
set_option maxRecDepth 100000 in
theorem wx_k122_15 : (wx_e122).all (fun e => wx_chk (wx_on wx_K15 122 e.2.2.2) rx_ro wx_nb wx_K15 20000 rx_m122 e) = true := by decide +kernel
set_option maxRecDepth 100000 in
theorem wx_k135_15 : (wx_e135).all (fun e => wx_chk (wx_on wx_K15 135 e.2.2.2) rx_ro wx_nb wx_K15 20000 rx_m135 e) = true := by decide +kernel
set_option maxRecDepth 100000 in
theorem wx_k160_15 : (wx_e160).all (fun e => wx_chk (wx_on wx_K15 160 e.2.2.2) rx_ro wx_nb wx_K15 20000 rx_m160 e) = true := by decide +kernel
set_option maxRecDepth 100000 in
theorem wx_k164_15 : (wx_e164).all (fun e => wx_chk (wx_on wx_K15 164 e.2.2.2) rx_ro wx_nb wx_K15 20000 rx_m164 e) = true := by decide +kernel
set_option maxRecDepth 100000 in
theorem wx_k169_15 : (wx_e169).all (fun e => wx_chk (wx_on wx_K15 169 e.2.2.2) rx_ro wx_nb wx_K15 20000 rx_m169 e) = true := by decide +kernel
set_option maxRecDepth 100000 in
theorem wx_k170_15 : (wx_e170).all (fun e => wx_chk (wx_on wx_K15 170 e.2.2.2) rx_ro wx_nb wx_K15 20000 rx_m170 e) = true := by decide +kernel
set_option maxRecDepth 100000 in
theorem wx_k178_15 : (wx_e178).all (fun e => wx_chk (wx_on wx_K15 178 e.2.2.2) rx_ro wx_nb wx_K15 20000 rx_m178 e) = true := by decide +kernel
set_option maxRecDepth 100000 in
theorem wx_k188_15 : (wx_e188).all (fun e => wx_chk (wx_on wx_K15 188 e.2.2.2) rx_ro wx_nb wx_K15 20000 rx_m188 e) = true := by decide +kernel
set_option maxRecDepth 100000 in
theorem wx_k190_15 : (wx_e190).all (fun e => wx_chk (wx_on wx_K15 190 e.2.2.2) rx_ro wx_nb wx_K15 20000 rx_m190 e) = true := by decide +kernel
set_option maxRecDepth 100000 in
theorem wx_k166_15 : (wx_e166).all (fun e => wx_chk (wx_M rx_xM rx_ro wx_T 166 wx_dM wx_iK 600 3) rx_ro wx_nb wx_K15 20000 rx_m166 e) = true := by decide +kernel
set_option maxRecDepth 100000 in
theorem wx_k22_16 : (wx_e22).all (fun e => wx_chk (wx_on wx_K16 22 e.2.2.2) rx_ro wx_nb wx_K16 20000 rx_m22 e) = true := by decide +kernel
set_option maxRecDepth 100000 in
theorem wx_k91_16 : (wx_e91).all (fun e => wx_chk (wx_on wx_K16 91 e.2.2.2) rx_ro wx_nb wx_K16 20000 rx_m91 e) = true := by decide +kernel
set_option maxRecDepth 100000 in
theorem wx_k90_16 : (wx_e90).all (fun e => wx_chk (wx_on wx_K16 90 e.2.2.2) rx_ro wx_nb wx_K16 20000 rx_m90 e) = true := by decide +kernel
set_option maxRecDepth 100000 in
theorem wx_k66_16 : (wx_e66).all (fun e => wx_chk (wx_on wx_K16 66 e.2.2.2) rx_ro wx_nb wx_K16 20000 rx_m66 e) = true := by decide +kernel
set_option maxRecDepth 100000 in
theorem wx_k74_16 : (wx_e74).all (fun e => wx_chk (wx_on wx_K16 74 e.2.2.2) rx_ro wx_nb wx_K16 20000 rx_m74 e) = true := by decide +kernel
set_option maxRecDepth 100000 in
theorem wx_k62_16 : (wx_e62).all (fun e => wx_chk (wx_on wx_K16 62 e.2.2.2) rx_ro wx_nb wx_K16 20000 rx_m62 e) = true := by decide +kernel
set_option maxRecDepth 100000 in
theorem wx_k64_16 : (wx_e64).all (fun e => wx_chk (wx_on wx_K16 64 e.2.2.2) rx_ro wx_nb wx_K16 20000 rx_m64 e) = true := by decide +kernel
set_option maxRecDepth 100000 in
theorem wx_k122_16 : (wx_e122).all (fun e => wx_chk (wx_on wx_K16 122 e.2.2.2) rx_ro wx_nb wx_K16 20000 rx_m122 e) = true := by decide +kernel
set_option maxRecDepth 100000 in
theorem wx_k135_16 : (wx_e135).all (fun e => wx_chk (wx_on wx_K16 135 e.2.2.2) rx_ro wx_nb wx_K16 20000 rx_m135 e) = true := by decide +kernel
set_option maxRecDepth 100000 in
theorem wx_k160_16 : (wx_e160).all (fun e => wx_chk (wx_on wx_K16 160 e.2.2.2) rx_ro wx_nb wx_K16 20000 rx_m160 e) = true := by decide +kernel
set_option maxRecDepth 100000 in
theorem wx_k164_16 : (wx_e164).all (fun e => wx_chk (wx_on wx_K16 164 e.2.2.2) rx_ro wx_nb wx_K16 20000 rx_m164 e) = true := by decide +kernel
set_option maxRecDepth 100000 in
theorem wx_k169_16 : (wx_e169).all (fun e => wx_chk (wx_on wx_K16 169 e.2.2.2) rx_ro wx_nb wx_K16 20000 rx_m169 e) = true := by decide +kernel
set_option maxRecDepth 100000 in
theorem wx_k170_16 : (wx_e170).all (fun e => wx_chk (wx_on wx_K16 170 e.2.2.2) rx_ro wx_nb wx_K16 20000 rx_m170 e) = true := by decide +kernel
set_option maxRecDepth 100000 in
theorem wx_k178_16 : (wx_e178).all (fun e => wx_chk (wx_on wx_K16 178 e.2.2.2) rx_ro wx_nb wx_K16 20000 rx_m178 e) = true := by decide +kernel
set_option maxRecDepth 100000 in
theorem wx_k188_16 : (wx_e188).all (fun e => wx_chk (wx_on wx_K16 188 e.2.2.2) rx_ro wx_nb wx_K16 20000 rx_m188 e) = true := by decide +kernel
set_option maxRecDepth 100000 in
theorem wx_k190_16 : (wx_e190).all (fun e => wx_chk (wx_on wx_K16 190 e.2.2.2) rx_ro wx_nb wx_K16 20000 rx_m190 e) = true := by decide +kernel
set_option maxRecDepth 100000 in
theorem wx_k166_16 : (wx_e166).all (fun e => wx_chk (wx_M rx_xM rx_ro wx_T 166 wx_dM wx_iK 600 3) rx_ro wx_nb wx_K16 20000 rx_m166 e) = true := by decide +kernel
set_option maxRecDepth 100000 in
theorem wx_k22_17 : (wx_e22).all (fun e => wx_chk (wx_on wx_K17 22 e.2.2.2) rx_ro wx_nb wx_K17 20000 rx_m22 e) = true := by decide +kernel
set_option maxRecDepth 100000 in
theorem wx_k91_17 : (wx_e91).all (fun e => wx_chk (wx_on wx_K17 91 e.2.2.2) rx_ro wx_nb wx_K17 20000 rx_m91 e) = true := by decide +kernel
set_option maxRecDepth 100000 in
theorem wx_k90_17 : (wx_e90).all (fun e => wx_chk (wx_on wx_K17 90 e.2.2.2) rx_ro wx_nb wx_K17 20000 rx_m90 e) = true := by decide +kernel
set_option maxRecDepth 100000 in
theorem wx_k66_17 : (wx_e66).all (fun e => wx_chk (wx_on wx_K17 66 e.2.2.2) rx_ro wx_nb wx_K17 20000 rx_m66 e) = true := by decide +kernel
set_option maxRecDepth 100000 in
theorem wx_k74_17 : (wx_e74).all (fun e => wx_chk (wx_on wx_K17 74 e.2.2.2) rx_ro wx_nb wx_K17 20000 rx_m74 e) = true := by decide +kernel
set_option maxRecDepth 100000 in
theorem wx_k62_17 : (wx_e62).all (fun e => wx_chk (wx_on wx_K17 62 e.2.2.2) rx_ro wx_nb wx_K17 20000 rx_m62 e) = true := by decide +kernel
set_option maxRecDepth 100000 in
theorem wx_k64_17 : (wx_e64).all (fun e => wx_chk (wx_on wx_K17 64 e.2.2.2) rx_ro wx_nb wx_K17 20000 rx_m64 e) = true := by decide +kernel
set_option maxRecDepth 100000 in
theorem wx_k122_17 : (wx_e122).all (fun e => wx_chk (wx_on wx_K17 122 e.2.2.2) rx_ro wx_nb wx_K17 20000 rx_m122 e) = true := by decide +kernel
set_option maxRecDepth 100000 in
theorem wx_k135_17 : (wx_e135).all (fun e => wx_chk (wx_on wx_K17 135 e.2.2.2) rx_ro wx_nb wx_K17 20000 rx_m135 e) = true := by decide +kernel
set_option maxRecDepth 100000 in
theorem wx_k160_17 : (wx_e160).all (fun e => wx_chk (wx_on wx_K17 160 e.2.2.2) rx_ro wx_nb wx_K17 20000 rx_m160 e) = true := by decide +kernel
set_option maxRecDepth 100000 in
theorem wx_k164_17 : (wx_e164).all (fun e => wx_chk (wx_on wx_K17 164 e.2.2.2) rx_ro wx_nb wx_K17 20000 rx_m164 e) = true := by decide +kernel
set_option maxRecDepth 100000 in
theorem wx_k169_17 : (wx_e169).all (fun e => wx_chk (wx_on wx_K17 169 e.2.2.2) rx_ro wx_nb wx_K17 20000 rx_m169 e) = true := by decide +kernel
set_option maxRecDepth 100000 in
theorem wx_k170_17 : (wx_e170).all (fun e => wx_chk (wx_on wx_K17 170 e.2.2.2) rx_ro wx_nb wx_K17 20000 rx_m170 e) = true := by decide +kernel
set_option maxRecDepth 100000 in
theorem wx_k178_17 : (wx_e178).all (fun e => wx_chk (wx_on wx_K17 178 e.2.2.2) rx_ro wx_nb wx_K17 20000 rx_m178 e) = true := by decide +kernel
set_option maxRecDepth 100000 in
theorem wx_k188_17 : (wx_e188).all (fun e => wx_chk (wx_on wx_K17 188 e.2.2.2) rx_ro wx_nb wx_K17 20000 rx_m188 e) = true := by decide +kernel
set_option maxRecDepth 100000 in
theorem wx_k190_17 : (wx_e190).all (fun e => wx_chk (wx_on wx_K17 190 e.2.2.2) rx_ro wx_nb wx_K17 20000 rx_m190 e) = true := by decide +kernel
set_option maxRecDepth 100000 in
theorem wx_k166_17 : (wx_e166).all (fun e => wx_chk (wx_M rx_xM rx_ro wx_T 166 wx_dM wx_iK 600 3) rx_ro wx_nb wx_K17 20000 rx_m166 e) = true := by decide +kernel
