/-! CHECKS -/
set_option maxRecDepth 100000 in
theorem wx_k22_36 : (wx_e22).all (fun e => wx_chk (wx_on wx_K36 22 e.2.2.2) rx_ro wx_nb wx_K36 20000 rx_m22 e) = true := by decide +kernel
set_option maxRecDepth 100000 in
theorem wx_k91_36 : (wx_e91).all (fun e => wx_chk (wx_on wx_K36 91 e.2.2.2) rx_ro wx_nb wx_K36 20000 rx_m91 e) = true := by decide +kernel
set_option maxRecDepth 100000 in
theorem wx_k90_36 : (wx_e90).all (fun e => wx_chk (wx_on wx_K36 90 e.2.2.2) rx_ro wx_nb wx_K36 20000 rx_m90 e) = true := by decide +kernel
set_option maxRecDepth 100000 in
theorem wx_k66_36 : (wx_e66).all (fun e => wx_chk (wx_on wx_K36 66 e.2.2.2) rx_ro wx_nb wx_K36 20000 rx_m66 e) = true := by decide +kernel
set_option maxRecDepth 100000 in
theorem wx_k74_36 : (wx_e74).all (fun e => wx_chk (wx_on wx_K36 74 e.2.2.2) rx_ro wx_nb wx_K36 20000 rx_m74 e) = true := by decide +kernel
set_option maxRecDepth 100000 in
theorem wx_k62_36 : (wx_e62).all (fun e => wx_chk (wx_on wx_K36 62 e.2.2.2) rx_ro wx_nb wx_K36 20000 rx_m62 e) = true := by decide +kernel
set_option maxRecDepth 100000 in
theorem wx_k64_36 : (wx_e64).all (fun e => wx_chk (wx_on wx_K36 64 e.2.2.2) rx_ro wx_nb wx_K36 20000 rx_m64 e) = true := by decide +kernel
set_option maxRecDepth 100000 in
theorem wx_k122_36 : (wx_e122).all (fun e => wx_chk (wx_on wx_K36 122 e.2.2.2) rx_ro wx_nb wx_K36 20000 rx_m122 e) = true := by decide +kernel
set_option maxRecDepth 100000 in
theorem wx_k135_36 : (wx_e135).all (fun e => wx_chk (wx_on wx_K36 135 e.2.2.2) rx_ro wx_nb wx_K36 20000 rx_m135 e) = true := by decide +kernel
set_option maxRecDepth 100000 in
theorem wx_k160_36 : (wx_e160).all (fun e => wx_chk (wx_on wx_K36 160 e.2.2.2) rx_ro wx_nb wx_K36 20000 rx_m160 e) = true := by decide +kernel
set_option maxRecDepth 100000 in
theorem wx_k164_36 : (wx_e164).all (fun e => wx_chk (wx_on wx_K36 164 e.2.2.2) rx_ro wx_nb wx_K36 20000 rx_m164 e) = true := by decide +kernel
set_option maxRecDepth 100000 in
theorem wx_k169_36 : (wx_e169).all (fun e => wx_chk (wx_on wx_K36 169 e.2.2.2) rx_ro wx_nb wx_K36 20000 rx_m169 e) = true := by decide +kernel
set_option maxRecDepth 100000 in
theorem wx_k170_36 : (wx_e170).all (fun e => wx_chk (wx_on wx_K36 170 e.2.2.2) rx_ro wx_nb wx_K36 20000 rx_m170 e) = true := by decide +kernel
set_option maxRecDepth 100000 in
theorem wx_k178_36 : (wx_e178).all (fun e => wx_chk (wx_on wx_K36 178 e.2.2.2) rx_ro wx_nb wx_K36 20000 rx_m178 e) = true := by decide +kernel
set_option maxRecDepth 100000 in
theorem wx_k188_36 : (wx_e188).all (fun e => wx_chk (wx_on wx_K36 188 e.2.2.2) rx_ro wx_nb wx_K36 20000 rx_m188 e) = true := by decide +kernel
set_option maxRecDepth 100000 in
theorem wx_k190_36 : (wx_e190).all (fun e => wx_chk (wx_on wx_K36 190 e.2.2.2) rx_ro wx_nb wx_K36 20000 rx_m190 e) = true := by decide +kernel
set_option maxRecDepth 100000 in
theorem wx_k166_36 : (wx_e166).all (fun e => wx_chk (wx_M rx_xM rx_ro wx_T 166 wx_dM wx_iK 600 3) rx_ro wx_nb wx_K36 20000 rx_m166 e) = true := by decide +kernel
set_option maxRecDepth 100000 in
theorem wx_k22_37 : (wx_e22).all (fun e => wx_chk (wx_on wx_K37 22 e.2.2.2) rx_ro wx_nb wx_K37 20000 rx_m22 e) = true := by decide +kernel
set_option maxRecDepth 100000 in
theorem wx_k91_37 : (wx_e91).all (fun e => wx_chk (wx_on wx_K37 91 e.2.2.2) rx_ro wx_nb wx_K37 20000 rx_m91 e) = true := by decide +kernel
set_option maxRecDepth 100000 in
theorem wx_k90_37 : (wx_e90).all (fun e => wx_chk (wx_on wx_K37 90 e.2.2.2) rx_ro wx_nb wx_K37 20000 rx_m90 e) = true := by decide +kernel
set_option maxRecDepth 100000 in
theorem wx_k66_37 : (wx_e66).all (fun e => wx_chk (wx_on wx_K37 66 e.2.2.2) rx_ro wx_nb wx_K37 20000 rx_m66 e) = true := by decide +kernel
set_option maxRecDepth 100000 in
theorem wx_k74_37 : (wx_e74).all (fun e => wx_chk (wx_on wx_K37 74 e.2.2.2) rx_ro wx_nb wx_K37 20000 rx_m74 e) = true := by decide +kernel
set_option maxRecDepth 100000 in
theorem wx_k62_37 : (wx_e62).all (fun e => wx_chk (wx_on wx_K37 62 e.2.2.2) rx_ro wx_nb wx_K37 20000 rx_m62 e) = true := by decide +kernel
set_option maxRecDepth 100000 in
theorem wx_k64_37 : (wx_e64).all (fun e => wx_chk (wx_on wx_K37 64 e.2.2.2) rx_ro wx_nb wx_K37 20000 rx_m64 e) = true := by decide +kernel
set_option maxRecDepth 100000 in
theorem wx_k122_37 : (wx_e122).all (fun e => wx_chk (wx_on wx_K37 122 e.2.2.2) rx_ro wx_nb wx_K37 20000 rx_m122 e) = true := by decide +kernel
set_option maxRecDepth 100000 in
theorem wx_k135_37 : (wx_e135).all (fun e => wx_chk (wx_on wx_K37 135 e.2.2.2) rx_ro wx_nb wx_K37 20000 rx_m135 e) = true := by decide +kernel
set_option maxRecDepth 100000 in
theorem wx_k160_37 : (wx_e160).all (fun e => wx_chk (wx_on wx_K37 160 e.2.2.2) rx_ro wx_nb wx_K37 20000 rx_m160 e) = true := by decide +kernel
set_option maxRecDepth 100000 in
theorem wx_k164_37 : (wx_e164).all (fun e => wx_chk (wx_on wx_K37 164 e.2.2.2) rx_ro wx_nb wx_K37 20000 rx_m164 e) = true := by decide +kernel
set_option maxRecDepth 100000 in
theorem wx_k169_37 : (wx_e169).all (fun e => wx_chk (wx_on wx_K37 169 e.2.2.2) rx_ro wx_nb wx_K37 20000 rx_m169 e) = true := by decide +kernel
set_option maxRecDepth 100000 in
theorem wx_k170_37 : (wx_e170).all (fun e => wx_chk (wx_on wx_K37 170 e.2.2.2) rx_ro wx_nb wx_K37 20000 rx_m170 e) = true := by decide +kernel
set_option maxRecDepth 100000 in
theorem wx_k178_37 : (wx_e178).all (fun e => wx_chk (wx_on wx_K37 178 e.2.2.2) rx_ro wx_nb wx_K37 20000 rx_m178 e) = true := by decide +kernel
set_option maxRecDepth 100000 in
theorem wx_k188_37 : (wx_e188).all (fun e => wx_chk (wx_on wx_K37 188 e.2.2.2) rx_ro wx_nb wx_K37 20000 rx_m188 e) = true := by decide +kernel
set_option maxRecDepth 100000 in
theorem wx_k190_37 : (wx_e190).all (fun e => wx_chk (wx_on wx_K37 190 e.2.2.2) rx_ro wx_nb wx_K37 20000 rx_m190 e) = true := by decide +kernel
set_option maxRecDepth 100000 in
theorem wx_k166_37 : (wx_e166).all (fun e => wx_chk (wx_M rx_xM rx_ro wx_T 166 wx_dM wx_iK 600 3) rx_ro wx_nb wx_K37 20000 rx_m166 e) = true := by decide +kernel
set_option maxRecDepth 100000 in
theorem wx_k22_38 : (wx_e22).all (fun e => wx_chk (wx_on wx_K38 22 e.2.2.2) rx_ro wx_nb wx_K38 20000 rx_m22 e) = true := by decide +kernel
set_option maxRecDepth 100000 in
theorem wx_k91_38 : (wx_e91).all (fun e => wx_chk (wx_on wx_K38 91 e.2.2.2) rx_ro wx_nb wx_K38 20000 rx_m91 e) = true := by decide +kernel
set_option maxRecDepth 100000 in
theorem wx_k90_38 : (wx_e90).all (fun e => wx_chk (wx_on wx_K38 90 e.2.2.2) rx_ro wx_nb wx_K38 20000 rx_m90 e) = true := by decide +kernel
set_option maxRecDepth 100000 in
theorem wx_k66_38 : (wx_e66).all (fun e => wx_chk (wx_on wx_K38 66 e.2.2.2) rx_ro wx_nb wx_K38 20000 rx_m66 e) = true := by decide +kernel
set_option maxRecDepth 100000 in
theorem wx_k74_38 : (wx_e74).all (fun e => wx_chk (wx_on wx_K38 74 e.2.2.2) rx_ro wx_nb wx_K38 20000 rx_m74 e) = true := by decide +kernel
set_option maxRecDepth 100000 in
theorem wx_k62_38 : (wx_e62).all (fun e => wx_chk (wx_on wx_K38 62 e.2.2.2) rx_ro wx_nb wx_K38 20000 rx_m62 e) = true := by decide +kernel
set_option maxRecDepth 100000 in
theorem wx_k64_38 : (wx_e64).all (fun e => wx_chk (wx_on wx_K38 64 e.2.2.2) rx_ro wx_nb wx_K38 20000 rx_m64 e) = true := by decide +kernel
set_option maxRecDepth 100000 in
theorem wx_k122_38 : (wx_e122).all (fun e => wx_chk (wx_on wx_K38 122 e.2.2.2) rx_ro wx_nb wx_K38 20000 rx_m122 e) = true := by decide +kernel
set_option maxRecDepth 100000 in
theorem wx_k135_38 : (wx_e135).all (fun e => wx_chk (wx_on wx_K38 135 e.2.2.2) rx_ro wx_nb wx_K38 20000 rx_m135 e) = true := by decide +kernel
set_option maxRecDepth 100000 in
theorem wx_k160_38 : (wx_e160).all (fun e => wx_chk (wx_on wx_K38 160 e.2.2.2) rx_ro wx_nb wx_K38 20000 rx_m160 e) = true := by decide +kernel
set_option maxRecDepth 100000 in
theorem wx_k164_38 : (wx_e164).all (fun e => wx_chk (wx_on wx_K38 164 e.2.2.2) rx_ro wx_nb wx_K38 20000 rx_m164 e) = true := by decide +kernel
set_option maxRecDepth 100000 in
theorem wx_k169_38 : (wx_e169).all (fun e => wx_chk (wx_on wx_K38 169 e.2.2.2) rx_ro wx_nb wx_K38 20000 rx_m169 e) = true := by decide +kernel
set_option maxRecDepth 100000 in
theorem wx_k170_38 : (wx_e170).all (fun e => wx_chk (wx_on wx_K38 170 e.2.2.2) rx_ro wx_nb wx_K38 20000 rx_m170 e) = true := by decide +kernel
set_option maxRecDepth 100000 in
theorem wx_k178_38 : (wx_e178).all (fun e => wx_chk (wx_on wx_K38 178 e.2.2.2) rx_ro wx_nb wx_K38 20000 rx_m178 e) = true := by decide +kernel
set_option maxRecDepth 100000 in
theorem wx_k188_38 : (wx_e188).all (fun e => wx_chk (wx_on wx_K38 188 e.2.2.2) rx_ro wx_nb wx_K38 20000 rx_m188 e) = true := by decide +kernel
set_option maxRecDepth 100000 in
theorem wx_k190_38 : (wx_e190).all (fun e => wx_chk (wx_on wx_K38 190 e.2.2.2) rx_ro wx_nb wx_K38 20000 rx_m190 e) = true := by decide +kernel
set_option maxRecDepth 100000 in
theorem wx_k166_38 : (wx_e166).all (fun e => wx_chk (wx_M rx_xM rx_ro wx_T 166 wx_dM wx_iK 600 3) rx_ro wx_nb wx_K38 20000 rx_m166 e) = true := by decide +kernel
set_option maxRecDepth 100000 in
theorem wx_k22_39 : (wx_e22).all (fun e => wx_chk (wx_on wx_K39 22 e.2.2.2) rx_ro wx_nb wx_K39 20000 rx_m22 e) = true := by decide +kernel
set_option maxRecDepth 100000 in
theorem wx_k91_39 : (wx_e91).all (fun e => wx_chk (wx_on wx_K39 91 e.2.2.2) rx_ro wx_nb wx_K39 20000 rx_m91 e) = true := by decide +kernel
set_option maxRecDepth 100000 in
theorem wx_k90_39 : (wx_e90).all (fun e => wx_chk (wx_on wx_K39 90 e.2.2.2) rx_ro wx_nb wx_K39 20000 rx_m90 e) = true := by decide +kernel
set_option maxRecDepth 100000 in
theorem wx_k66_39 : (wx_e66).all (fun e => wx_chk (wx_on wx_K39 66 e.2.2.2) rx_ro wx_nb wx_K39 20000 rx_m66 e) = true := by decide +kernel
set_option maxRecDepth 100000 in
theorem wx_k74_39 : (wx_e74).all (fun e => wx_chk (wx_on wx_K39 74 e.2.2.2) rx_ro wx_nb wx_K39 20000 rx_m74 e) = true := by decide +kernel
set_option maxRecDepth 100000 in
theorem wx_k62_39 : (wx_e62).all (fun e => wx_chk (wx_on wx_K39 62 e.2.2.2) rx_ro wx_nb wx_K39 20000 rx_m62 e) = true := by decide +kernel
set_option maxRecDepth 100000 in
theorem wx_k64_39 : (wx_e64).all (fun e => wx_chk (wx_on wx_K39 64 e.2.2.2) rx_ro wx_nb wx_K39 20000 rx_m64 e) = true := by decide +kernel
set_option maxRecDepth 100000 in
theorem wx_k122_39 : (wx_e122).all (fun e => wx_chk (wx_on wx_K39 122 e.2.2.2) rx_ro wx_nb wx_K39 20000 rx_m122 e) = true := by decide +kernel
set_option maxRecDepth 100000 in
theorem wx_k135_39 : (wx_e135).all (fun e => wx_chk (wx_on wx_K39 135 e.2.2.2) rx_ro wx_nb wx_K39 20000 rx_m135 e) = true := by decide +kernel
set_option maxRecDepth 100000 in
theorem wx_k160_39 : (wx_e160).all (fun e => wx_chk (wx_on wx_K39 160 e.2.2.2) rx_ro wx_nb wx_K39 20000 rx_m160 e) = true := by decide +kernel
set_option maxRecDepth 100000 in
theorem wx_k164_39 : (wx_e164).all (fun e => wx_chk (wx_on wx_K39 164 e.2.2.2) rx_ro wx_nb wx_K39 20000 rx_m164 e) = true := by decide +kernel
set_option maxRecDepth 100000 in
theorem wx_k169_39 : (wx_e169).all (fun e => wx_chk (wx_on wx_K39 169 e.2.2.2) rx_ro wx_nb wx_K39 20000 rx_m169 e) = true := by decide +kernel
set_option maxRecDepth 100000 in
theorem wx_k170_39 : (wx_e170).all (fun e => wx_chk (wx_on wx_K39 170 e.2.2.2) rx_ro wx_nb wx_K39 20000 rx_m170 e) = true := by decide +kernel
set_option maxRecDepth 100000 in
theorem wx_k178_39 : (wx_e178).all (fun e => wx_chk (wx_on wx_K39 178 e.2.2.2) rx_ro wx_nb wx_K39 20000 rx_m178 e) = true := by decide +kernel
set_option maxRecDepth 100000 in
theorem wx_k188_39 : (wx_e188).all (fun e => wx_chk (wx_on wx_K39 188 e.2.2.2) rx_ro wx_nb wx_K39 20000 rx_m188 e) = true := by decide +kernel
set_option maxRecDepth 100000 in
theorem wx_k190_39 : (wx_e190).all (fun e => wx_chk (wx_on wx_K39 190 e.2.2.2) rx_ro wx_nb wx_K39 20000 rx_m190 e) = true := by decide +kernel
set_option maxRecDepth 100000 in
theorem wx_k166_39 : (wx_e166).all (fun e => wx_chk (wx_M rx_xM rx_ro wx_T 166 wx_dM wx_iK 600 3) rx_ro wx_nb wx_K39 20000 rx_m166 e) = true := by decide +kernel
set_option maxRecDepth 100000 in
theorem wx_k22_40 : (wx_e22).all (fun e => wx_chk (wx_on wx_K40 22 e.2.2.2) rx_ro wx_nb wx_K40 20000 rx_m22 e) = true := by decide +kernel
set_option maxRecDepth 100000 in
theorem wx_k91_40 : (wx_e91).all (fun e => wx_chk (wx_on wx_K40 91 e.2.2.2) rx_ro wx_nb wx_K40 20000 rx_m91 e) = true := by decide +kernel
set_option maxRecDepth 100000 in
theorem wx_k90_40 : (wx_e90).all (fun e => wx_chk (wx_on wx_K40 90 e.2.2.2) rx_ro wx_nb wx_K40 20000 rx_m90 e) = true := by decide +kernel
set_option maxRecDepth 100000 in
theorem wx_k66_40 : (wx_e66).all (fun e => wx_chk (wx_on wx_K40 66 e.2.2.2) rx_ro wx_nb wx_K40 20000 rx_m66 e) = true := by decide +kernel
set_option maxRecDepth 100000 in
theorem wx_k74_40 : (wx_e74).all (fun e => wx_chk (wx_on wx_K40 74 e.2.2.2) rx_ro wx_nb wx_K40 20000 rx_m74 e) = true := by decide +kernel
set_option maxRecDepth 100000 in
theorem wx_k62_40 : (wx_e62).all (fun e => wx_chk (wx_on wx_K40 62 e.2.2.2) rx_ro wx_nb wx_K40 20000 rx_m62 e) = true := by decide +kernel
set_option maxRecDepth 100000 in
theorem wx_k64_40 : (wx_e64).all (fun e => wx_chk (wx_on wx_K40 64 e.2.2.2) rx_ro wx_nb wx_K40 20000 rx_m64 e) = true := by decide +kernel
set_option maxRecDepth 100000 in
theorem wx_k122_40 : (wx_e122).all (fun e => wx_chk (wx_on wx_K40 122 e.2.2.2) rx_ro wx_nb wx_K40 20000 rx_m122 e) = true := by decide +kernel
set_option maxRecDepth 100000 in
theorem wx_k135_40 : (wx_e135).all (fun e => wx_chk (wx_on wx_K40 135 e.2.2.2) rx_ro wx_nb wx_K40 20000 rx_m135 e) = true := by decide +kernel
set_option maxRecDepth 100000 in
theorem wx_k160_40 : (wx_e160).all (fun e => wx_chk (wx_on wx_K40 160 e.2.2.2) rx_ro wx_nb wx_K40 20000 rx_m160 e) = true := by decide +kernel
set_option maxRecDepth 100000 in
theorem wx_k164_40 : (wx_e164).all (fun e => wx_chk (wx_on wx_K40 164 e.2.2.2) rx_ro wx_nb wx_K40 20000 rx_m164 e) = true := by decide +kernel
set_option maxRecDepth 100000 in
theorem wx_k169_40 : (wx_e169).all (fun e => wx_chk (wx_on wx_K40 169 e.2.2.2) rx_ro wx_nb wx_K40 20000 rx_m169 e) = true := by decide +kernel
set_option maxRecDepth 100000 in
theorem wx_k170_40 : (wx_e170).all (fun e => wx_chk (wx_on wx_K40 170 e.2.2.2) rx_ro wx_nb wx_K40 20000 rx_m170 e) = true := by decide +kernel
set_option maxRecDepth 100000 in
theorem wx_k178_40 : (wx_e178).all (fun e => wx_chk (wx_on wx_K40 178 e.2.2.2) rx_ro wx_nb wx_K40 20000 rx_m178 e) = true := by decide +kernel
set_option maxRecDepth 100000 in
theorem wx_k188_40 : (wx_e188).all (fun e => wx_chk (wx_on wx_K40 188 e.2.2.2) rx_ro wx_nb wx_K40 20000 rx_m188 e) = true := by decide +kernel
set_option maxRecDepth 100000 in
theorem wx_k190_40 : (wx_e190).all (fun e => wx_chk (wx_on wx_K40 190 e.2.2.2) rx_ro wx_nb wx_K40 20000 rx_m190 e) = true := by decide +kernel
set_option maxRecDepth 100000 in
theorem wx_k166_40 : (wx_e166).all (fun e => wx_chk (wx_M rx_xM rx_ro wx_T 166 wx_dM wx_iK 600 3) rx_ro wx_nb wx_K40 20000 rx_m166 e) = true := by decide +kernel
