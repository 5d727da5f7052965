/-! CHECKS -/
set_option maxRecDepth 100000 in
theorem wx_k22_30 : (wx_e22).all (fun e => wx_chk (wx_on wx_K30 22 e.2.2.2) rx_ro wx_nb wx_K30 20000 rx_m22 e) = true := by decide +kernel
set_option maxRecDepth 100000 in
theorem wx_k91_30 : (wx_e91).all (fun e => wx_chk (wx_on wx_K30 91 e.2.2.2) rx_ro wx_nb wx_K30 20000 rx_m91 e) = true := by decide +kernel
set_option maxRecDepth 100000 in
theorem wx_k90_30 : (wx_e90).all (fun e => wx_chk (wx_on wx_K30 90 e.2.2.2) rx_ro wx_nb wx_K30 20000 rx_m90 e) = true := by decide +kernel
set_option maxRecDepth 100000 in
theorem wx_k66_30 : (wx_e66).all (fun e => wx_chk (wx_on wx_K30 66 e.2.2.2) rx_ro wx_nb wx_K30 20000 rx_m66 e) = true := by decide +kernel
set_option maxRecDepth 100000 in
theorem wx_k74_30 : (wx_e74).all (fun e => wx_chk (wx_on wx_K30 74 e.2.2.2) rx_ro wx_nb wx_K30 20000 rx_m74 e) = true := by decide +kernel
set_option maxRecDepth 100000 in
theorem wx_k62_30 : (wx_e62).all (fun e => wx_chk (wx_on wx_K30 62 e.2.2.2) rx_ro wx_nb wx_K30 20000 rx_m62 e) = true := by decide +kernel
set_option maxRecDepth 100000 in
theorem wx_k64_30 : (wx_e64).all (fun e => wx_chk (wx_on wx_K30 64 e.2.2.2) rx_ro wx_nb wx_K30 20000 rx_m64 e) = true := by decide +kernel
set_option maxRecDepth 100000 in
theorem wx_k122_30 : (wx_e122).all (fun e => wx_chk (wx_on wx_K30 122 e.2.2.2) rx_ro wx_nb wx_K30 20000 rx_m122 e) = true := by decide +kernel
set_option maxRecDepth 100000 in
theorem wx_k135_30 : (wx_e135).all (fun e => wx_chk (wx_on wx_K30 135 e.2.2.2) rx_ro wx_nb wx_K30 20000 rx_m135 e) = true := by decide +kernel
set_option maxRecDepth 100000 in
theorem wx_k160_30 : (wx_e160).all (fun e => wx_chk (wx_on wx_K30 160 e.2.2.2) rx_ro wx_nb wx_K30 20000 rx_m160 e) = true := by decide +kernel
set_option maxRecDepth 100000 in
theorem wx_k164_30 : (wx_e164).all (fun e => wx_chk (wx_on wx_K30 164 e.2.2.2) rx_ro wx_nb wx_K30 20000 rx_m164 e) = true := by decide +kernel
set_option maxRecDepth 100000 in
theorem wx_k169_30 : (wx_e169).all (fun e => wx_chk (wx_on wx_K30 169 e.2.2.2) rx_ro wx_nb wx_K30 20000 rx_m169 e) = true := by decide +kernel
set_option maxRecDepth 100000 in
theorem wx_k170_30 : (wx_e170).all (fun e => wx_chk (wx_on wx_K30 170 e.2.2.2) rx_ro wx_nb wx_K30 20000 rx_m170 e) = true := by decide +kernel
set_option maxRecDepth 100000 in
theorem wx_k178_30 : (wx_e178).all (fun e => wx_chk (wx_on wx_K30 178 e.2.2.2) rx_ro wx_nb wx_K30 20000 rx_m178 e) = true := by decide +kernel
set_option maxRecDepth 100000 in
theorem wx_k188_30 : (wx_e188).all (fun e => wx_chk (wx_on wx_K30 188 e.2.2.2) rx_ro wx_nb wx_K30 20000 rx_m188 e) = true := by decide +kernel
set_option maxRecDepth 100000 in
theorem wx_k190_30 : (wx_e190).all (fun e => wx_chk (wx_on wx_K30 190 e.2.2.2) rx_ro wx_nb wx_K30 20000 rx_m190 e) = true := by decide +kernel
set_option maxRecDepth 100000 in
theorem wx_k166_30 : (wx_e166).all (fun e => wx_chk (wx_M rx_xM rx_ro wx_T 166 wx_dM wx_iK 600 3) rx_ro wx_nb wx_K30 20000 rx_m166 e) = true := by decide +kernel
set_option maxRecDepth 100000 in
theorem wx_k22_31 : (wx_e22).all (fun e => wx_chk (wx_on wx_K31 22 e.2.2.2) rx_ro wx_nb wx_K31 20000 rx_m22 e) = true := by decide +kernel
set_option maxRecDepth 100000 in
theorem wx_k91_31 : (wx_e91).all (fun e => wx_chk (wx_on wx_K31 91 e.2.2.2) rx_ro wx_nb wx_K31 20000 rx_m91 e) = true := by decide +kernel
set_option maxRecDepth 100000 in
theorem wx_k90_31 : (wx_e90).all (fun e => wx_chk (wx_on wx_K31 90 e.2.2.2) rx_ro wx_nb wx_K31 20000 rx_m90 e) = true := by decide +kernel
set_option maxRecDepth 100000 in
theorem wx_k66_31 : (wx_e66).all (fun e => wx_chk (wx_on wx_K31 66 e.2.2.2) rx_ro wx_nb wx_K31 20000 rx_m66 e) = true := by decide +kernel
set_option maxRecDepth 100000 in
theorem wx_k74_31 : (wx_e74).all (fun e => wx_chk (wx_on wx_K31 74 e.2.2.2) rx_ro wx_nb wx_K31 20000 rx_m74 e) = true := by decide +kernel
set_option maxRecDepth 100000 in
theorem wx_k62_31 : (wx_e62).all (fun e => wx_chk (wx_on wx_K31 62 e.2.2.2) rx_ro wx_nb wx_K31 20000 rx_m62 e) = true := by decide +kernel
set_option maxRecDepth 100000 in
theorem wx_k64_31 : (wx_e64).all (fun e => wx_chk (wx_on wx_K31 64 e.2.2.2) rx_ro wx_nb wx_K31 20000 rx_m64 e) = true := by decide +kernel
set_option maxRecDepth 100000 in
theorem wx_k122_31 : (wx_e122).all (fun e => wx_chk (wx_on wx_K31 122 e.2.2.2) rx_ro wx_nb wx_K31 20000 rx_m122 e) = true := by decide +kernel
set_option maxRecDepth 100000 in
theorem wx_k135_31 : (wx_e135).all (fun e => wx_chk (wx_on wx_K31 135 e.2.2.2) rx_ro wx_nb wx_K31 20000 rx_m135 e) = true := by decide +kernel
set_option maxRecDepth 100000 in
theorem wx_k160_31 : (wx_e160).all (fun e => wx_chk (wx_on wx_K31 160 e.2.2.2) rx_ro wx_nb wx_K31 20000 rx_m160 e) = true := by decide +kernel
set_option maxRecDepth 100000 in
theorem wx_k164_31 : (wx_e164).all (fun e => wx_chk (wx_on wx_K31 164 e.2.2.2) rx_ro wx_nb wx_K31 20000 rx_m164 e) = true := by decide +kernel
set_option maxRecDepth 100000 in
theorem wx_k169_31 : (wx_e169).all (fun e => wx_chk (wx_on wx_K31 169 e.2.2.2) rx_ro wx_nb wx_K31 20000 rx_m169 e) = true := by decide +kernel
set_option maxRecDepth 100000 in
theorem wx_k170_31 : (wx_e170).all (fun e => wx_chk (wx_on wx_K31 170 e.2.2.2) rx_ro wx_nb wx_K31 20000 rx_m170 e) = true := by decide +kernel
set_option maxRecDepth 100000 in
theorem wx_k178_31 : (wx_e178).all (fun e => wx_chk (wx_on wx_K31 178 e.2.2.2) rx_ro wx_nb wx_K31 20000 rx_m178 e) = true := by decide +kernel
set_option maxRecDepth 100000 in
theorem wx_k188_31 : (wx_e188).all (fun e => wx_chk (wx_on wx_K31 188 e.2.2.2) rx_ro wx_nb wx_K31 20000 rx_m188 e) = true := by decide +kernel
set_option maxRecDepth 100000 in
theorem wx_k190_31 : (wx_e190).all (fun e => wx_chk (wx_on wx_K31 190 e.2.2.2) rx_ro wx_nb wx_K31 20000 rx_m190 e) = true := by decide +kernel
set_option maxRecDepth 100000 in
theorem wx_k166_31 : (wx_e166).all (fun e => wx_chk (wx_M rx_xM rx_ro wx_T 166 wx_dM wx_iK 600 3) rx_ro wx_nb wx_K31 20000 rx_m166 e) = true := by decide +kernel
set_option maxRecDepth 100000 in
theorem wx_k22_32 : (wx_e22).all (fun e => wx_chk (wx_on wx_K32 22 e.2.2.2) rx_ro wx_nb wx_K32 20000 rx_m22 e) = true := by decide +kernel
set_option maxRecDepth 100000 in
theorem wx_k91_32 : (wx_e91).all (fun e => wx_chk (wx_on wx_K32 91 e.2.2.2) rx_ro wx_nb wx_K32 20000 rx_m91 e) = true := by decide +kernel
set_option maxRecDepth 100000 in
theorem wx_k90_32 : (wx_e90).all (fun e => wx_chk (wx_on wx_K32 90 e.2.2.2) rx_ro wx_nb wx_K32 20000 rx_m90 e) = true := by decide +kernel
set_option maxRecDepth 100000 in
theorem wx_k66_32 : (wx_e66).all (fun e => wx_chk (wx_on wx_K32 66 e.2.2.2) rx_ro wx_nb wx_K32 20000 rx_m66 e) = true := by decide +kernel
set_option maxRecDepth 100000 in
theorem wx_k74_32 : (wx_e74).all (fun e => wx_chk (wx_on wx_K32 74 e.2.2.2) rx_ro wx_nb wx_K32 20000 rx_m74 e) = true := by decide +kernel
set_option maxRecDepth 100000 in
theorem wx_k62_32 : (wx_e62).all (fun e => wx_chk (wx_on wx_K32 62 e.2.2.2) rx_ro wx_nb wx_K32 20000 rx_m62 e) = true := by decide +kernel
set_option maxRecDepth 100000 in
theorem wx_k64_32 : (wx_e64).all (fun e => wx_chk (wx_on wx_K32 64 e.2.2.2) rx_ro wx_nb wx_K32 20000 rx_m64 e) = true := by decide +kernel
set_option maxRecDepth 100000 in
theorem wx_k122_32 : (wx_e122).all (fun e => wx_chk (wx_on wx_K32 122 e.2.2.2) rx_ro wx_nb wx_K32 20000 rx_m122 e) = true := by decide +kernel
set_option maxRecDepth 100000 in
theorem wx_k135_32 : (wx_e135).all (fun e => wx_chk (wx_on wx_K32 135 e.2.2.2) rx_ro wx_nb wx_K32 20000 rx_m135 e) = true := by decide +kernel
set_option maxRecDepth 100000 in
theorem wx_k160_32 : (wx_e160).all (fun e => wx_chk (wx_on wx_K32 160 e.2.2.2) rx_ro wx_nb wx_K32 20000 rx_m160 e) = true := by decide +kernel
set_option maxRecDepth 100000 in
theorem wx_k164_32 : (wx_e164).all (fun e => wx_chk (wx_on wx_K32 164 e.2.2.2) rx_ro wx_nb wx_K32 20000 rx_m164 e) = true := by decide +kernel
set_option maxRecDepth 100000 in
theorem wx_k169_32 : (wx_e169).all (fun e => wx_chk (wx_on wx_K32 169 e.2.2.2) rx_ro wx_nb wx_K32 20000 rx_m169 e) = true := by decide +kernel
set_option maxRecDepth 100000 in
theorem wx_k170_32 : (wx_e170).all (fun e => wx_chk (wx_on wx_K32 170 e.2.2.2) rx_ro wx_nb wx_K32 20000 rx_m170 e) = true := by decide +kernel
set_option maxRecDepth 100000 in
theorem wx_k178_32 : (wx_e178).all (fun e => wx_chk (wx_on wx_K32 178 e.2.2.2) rx_ro wx_nb wx_K32 20000 rx_m178 e) = true := by decide +kernel
set_option maxRecDepth 100000 in
theorem wx_k188_32 : (wx_e188).all (fun e => wx_chk (wx_on wx_K32 188 e.2.2.2) rx_ro wx_nb wx_K32 20000 rx_m188 e) = true := by decide +kernel
set_option maxRecDepth 100000 in
theorem wx_k190_32 : (wx_e190).all (fun e => wx_chk (wx_on wx_K32 190 e.2.2.2) rx_ro wx_nb wx_K32 20000 rx_m190 e) = true := by decide +kernel
set_option maxRecDepth 100000 in
theorem wx_k166_32 : (wx_e166).all (fun e => wx_chk (wx_M rx_xM rx_ro wx_T 166 wx_dM wx_iK 600 3) rx_ro wx_nb wx_K32 20000 rx_m166 e) = true := by decide +kernel
set_option maxRecDepth 100000 in
theorem wx_k22_33 : (wx_e22).all (fun e => wx_chk (wx_on wx_K33 22 e.2.2.2) rx_ro wx_nb wx_K33 20000 rx_m22 e) = true := by decide +kernel
set_option maxRecDepth 100000 in
theorem wx_k91_33 : (wx_e91).all (fun e => wx_chk (wx_on wx_K33 91 e.2.2.2) rx_ro wx_nb wx_K33 20000 rx_m91 e) = true := by decide +kernel
set_option maxRecDepth 100000 in
theorem wx_k90_33 : (wx_e90).all (fun e => wx_chk (wx_on wx_K33 90 e.2.2.2) rx_ro wx_nb wx_K33 20000 rx_m90 e) = true := by decide +kernel
set_option maxRecDepth 100000 in
theorem wx_k66_33 : (wx_e66).all (fun e => wx_chk (wx_on wx_K33 66 e.2.2.2) rx_ro wx_nb wx_K33 20000 rx_m66 e) = true := by decide +kernel
set_option maxRecDepth 100000 in
theorem wx_k74_33 : (wx_e74).all (fun e => wx_chk (wx_on wx_K33 74 e.2.2.2) rx_ro wx_nb wx_K33 20000 rx_m74 e) = true := by decide +kernel
set_option maxRecDepth 100000 in
theorem wx_k62_33 : (wx_e62).all (fun e => wx_chk (wx_on wx_K33 62 e.2.2.2) rx_ro wx_nb wx_K33 20000 rx_m62 e) = true := by decide +kernel
set_option maxRecDepth 100000 in
theorem wx_k64_33 : (wx_e64).all (fun e => wx_chk (wx_on wx_K33 64 e.2.2.2) rx_ro wx_nb wx_K33 20000 rx_m64 e) = true := by decide +kernel
set_option maxRecDepth 100000 in
theorem wx_k122_33 : (wx_e122).all (fun e => wx_chk (wx_on wx_K33 122 e.2.2.2) rx_ro wx_nb wx_K33 20000 rx_m122 e) = true := by decide +kernel
set_option maxRecDepth 100000 in
theorem wx_k135_33 : (wx_e135).all (fun e => wx_chk (wx_on wx_K33 135 e.2.2.2) rx_ro wx_nb wx_K33 20000 rx_m135 e) = true := by decide +kernel
set_option maxRecDepth 100000 in
theorem wx_k160_33 : (wx_e160).all (fun e => wx_chk (wx_on wx_K33 160 e.2.2.2) rx_ro wx_nb wx_K33 20000 rx_m160 e) = true := by decide +kernel
set_option maxRecDepth 100000 in
theorem wx_k164_33 : (wx_e164).all (fun e => wx_chk (wx_on wx_K33 164 e.2.2.2) rx_ro wx_nb wx_K33 20000 rx_m164 e) = true := by decide +kernel
set_option maxRecDepth 100000 in
theorem wx_k169_33 : (wx_e169).all (fun e => wx_chk (wx_on wx_K33 169 e.2.2.2) rx_ro wx_nb wx_K33 20000 rx_m169 e) = true := by decide +kernel
set_option maxRecDepth 100000 in
theorem wx_k170_33 : (wx_e170).all (fun e => wx_chk (wx_on wx_K33 170 e.2.2.2) rx_ro wx_nb wx_K33 20000 rx_m170 e) = true := by decide +kernel
set_option maxRecDepth 100000 in
theorem wx_k178_33 : (wx_e178).all (fun e => wx_chk (wx_on wx_K33 178 e.2.2.2) rx_ro wx_nb wx_K33 20000 rx_m178 e) = true := by decide +kernel
set_option maxRecDepth 100000 in
theorem wx_k188_33 : (wx_e188).all (fun e => wx_chk (wx_on wx_K33 188 e.2.2.2) rx_ro wx_nb wx_K33 20000 rx_m188 e) = true := by decide +kernel
set_option maxRecDepth 100000 in
theorem wx_k190_33 : (wx_e190).all (fun e => wx_chk (wx_on wx_K33 190 e.2.2.2) rx_ro wx_nb wx_K33 20000 rx_m190 e) = true := by decide +kernel
set_option maxRecDepth 100000 in
theorem wx_k166_33 : (wx_e166).all (fun e => wx_chk (wx_M rx_xM rx_ro wx_T 166 wx_dM wx_iK 600 3) rx_ro wx_nb wx_K33 20000 rx_m166 e) = true := by decide +kernel
set_option maxRecDepth 100000 in
theorem wx_k22_34 : (wx_e22).all (fun e => wx_chk (wx_on wx_K34 22 e.2.2.2) rx_ro wx_nb wx_K34 20000 rx_m22 e) = true := by decide +kernel
set_option maxRecDepth 100000 in
theorem wx_k91_34 : (wx_e91).all (fun e => wx_chk (wx_on wx_K34 91 e.2.2.2) rx_ro wx_nb wx_K34 20000 rx_m91 e) = true := by decide +kernel
set_option maxRecDepth 100000 in
theorem wx_k90_34 : (wx_e90).all (fun e => wx_chk (wx_on wx_K34 90 e.2.2.2) rx_ro wx_nb wx_K34 20000 rx_m90 e) = true := by decide +kernel
set_option maxRecDepth 100000 in
theorem wx_k66_34 : (wx_e66).all (fun e => wx_chk (wx_on wx_K34 66 e.2.2.2) rx_ro wx_nb wx_K34 20000 rx_m66 e) = true := by decide +kernel
set_option maxRecDepth 100000 in
theorem wx_k74_34 : (wx_e74).all (fun e => wx_chk (wx_on wx_K34 74 e.2.2.2) rx_ro wx_nb wx_K34 20000 rx_m74 e) = true := by decide +kernel
set_option maxRecDepth 100000 in
theorem wx_k62_34 : (wx_e62).all (fun e => wx_chk (wx_on wx_K34 62 e.2.2.2) rx_ro wx_nb wx_K34 20000 rx_m62 e) = true := by decide +kernel
set_option maxRecDepth 100000 in
theorem wx_k64_34 : (wx_e64).all (fun e => wx_chk (wx_on wx_K34 64 e.2.2.2) rx_ro wx_nb wx_K34 20000 rx_m64 e) = true := by decide +kernel
set_option maxRecDepth 100000 in
theorem wx_k122_34 : (wx_e122).all (fun e => wx_chk (wx_on wx_K34 122 e.2.2.2) rx_ro wx_nb wx_K34 20000 rx_m122 e) = true := by decide +kernel
set_option maxRecDepth 100000 in
theorem wx_k135_34 : (wx_e135).all (fun e => wx_chk (wx_on wx_K34 135 e.2.2.2) rx_ro wx_nb wx_K34 20000 rx_m135 e) = true := by decide +kernel
set_option maxRecDepth 100000 in
theorem wx_k160_34 : (wx_e160).all (fun e => wx_chk (wx_on wx_K34 160 e.2.2.2) rx_ro wx_nb wx_K34 20000 rx_m160 e) = true := by decide +kernel
set_option maxRecDepth 100000 in
theorem wx_k164_34 : (wx_e164).all (fun e => wx_chk (wx_on wx_K34 164 e.2.2.2) rx_ro wx_nb wx_K34 20000 rx_m164 e) = true := by decide +kernel
set_option maxRecDepth 100000 in
theorem wx_k169_34 : (wx_e169).all (fun e => wx_chk (wx_on wx_K34 169 e.2.2.2) rx_ro wx_nb wx_K34 20000 rx_m169 e) = true := by decide +kernel
set_option maxRecDepth 100000 in
theorem wx_k170_34 : (wx_e170).all (fun e => wx_chk (wx_on wx_K34 170 e.2.2.2) rx_ro wx_nb wx_K34 20000 rx_m170 e) = true := by decide +kernel
set_option maxRecDepth 100000 in
theorem wx_k178_34 : (wx_e178).all (fun e => wx_chk (wx_on wx_K34 178 e.2.2.2) rx_ro wx_nb wx_K34 20000 rx_m178 e) = true := by decide +kernel
set_option maxRecDepth 100000 in
theorem wx_k188_34 : (wx_e188).all (fun e => wx_chk (wx_on wx_K34 188 e.2.2.2) rx_ro wx_nb wx_K34 20000 rx_m188 e) = true := by decide +kernel
set_option maxRecDepth 100000 in
theorem wx_k190_34 : (wx_e190).all (fun e => wx_chk (wx_on wx_K34 190 e.2.2.2) rx_ro wx_nb wx_K34 20000 rx_m190 e) = true := by decide +kernel
set_option maxRecDepth 100000 in
theorem wx_k166_34 : (wx_e166).all (fun e => wx_chk (wx_M rx_xM rx_ro wx_T 166 wx_dM wx_iK 600 3) rx_ro wx_nb wx_K34 20000 rx_m166 e) = true := by decide +kernel
set_option maxRecDepth 100000 in
theorem wx_k22_35 : (wx_e22).all (fun e => wx_chk (wx_on wx_K35 22 e.2.2.2) rx_ro wx_nb wx_K35 20000 rx_m22 e) = true := by decide +kernel
set_option maxRecDepth 100000 in
theorem wx_k91_35 : (wx_e91).all (fun e => wx_chk (wx_on wx_K35 91 e.2.2.2) rx_ro wx_nb wx_K35 20000 rx_m91 e) = true := by decide +kernel
set_option maxRecDepth 100000 in
theorem wx_k90_35 : (wx_e90).all (fun e => wx_chk (wx_on wx_K35 90 e.2.2.2) rx_ro wx_nb wx_K35 20000 rx_m90 e) = true := by decide +kernel
set_option maxRecDepth 100000 in
theorem wx_k66_35 : (wx_e66).all (fun e => wx_chk (wx_on wx_K35 66 e.2.2.2) rx_ro wx_nb wx_K35 20000 rx_m66 e) = true := by decide +kernel
set_option maxRecDepth 100000 in
theorem wx_k74_35 : (wx_e74).all (fun e => wx_chk (wx_on wx_K35 74 e.2.2.2) rx_ro wx_nb wx_K35 20000 rx_m74 e) = true := by decide +kernel
set_option maxRecDepth 100000 in
theorem wx_k62_35 : (wx_e62).all (fun e => wx_chk (wx_on wx_K35 62 e.2.2.2) rx_ro wx_nb wx_K35 20000 rx_m62 e) = true := by decide +kernel
set_option maxRecDepth 100000 in
theorem wx_k64_35 : (wx_e64).all (fun e => wx_chk (wx_on wx_K35 64 e.2.2.2) rx_ro wx_nb wx_K35 20000 rx_m64 e) = true := by decide +kernel
set_option maxRecDepth 100000 in
theorem wx_k122_35 : (wx_e122).all (fun e => wx_chk (wx_on wx_K35 122 e.2.2.2) rx_ro wx_nb wx_K35 20000 rx_m122 e) = true := by decide +kernel
set_option maxRecDepth 100000 in
theorem wx_k135_35 : (wx_e135).all (fun e => wx_chk (wx_on wx_K35 135 e.2.2.2) rx_ro wx_nb wx_K35 20000 rx_m135 e) = true := by decide +kernel
set_option maxRecDepth 100000 in
theorem wx_k160_35 : (wx_e160).all (fun e => wx_chk (wx_on wx_K35 160 e.2.2.2) rx_ro wx_nb wx_K35 20000 rx_m160 e) = true := by decide +kernel
set_option maxRecDepth 100000 in
theorem wx_k164_35 : (wx_e164).all (fun e => wx_chk (wx_on wx_K35 164 e.2.2.2) rx_ro wx_nb wx_K35 20000 rx_m164 e) = true := by decide +kernel
set_option maxRecDepth 100000 in
theorem wx_k169_35 : (wx_e169).all (fun e => wx_chk (wx_on wx_K35 169 e.2.2.2) rx_ro wx_nb wx_K35 20000 rx_m169 e) = true := by decide +kernel
set_option maxRecDepth 100000 in
theorem wx_k170_35 : (wx_e170).all (fun e => wx_chk (wx_on wx_K35 170 e.2.2.2) rx_ro wx_nb wx_K35 20000 rx_m170 e) = true := by decide +kernel
set_option maxRecDepth 100000 in
theorem wx_k178_35 : (wx_e178).all (fun e => wx_chk (wx_on wx_K35 178 e.2.2.2) rx_ro wx_nb wx_K35 20000 rx_m178 e) = true := by decide +kernel
set_option maxRecDepth 100000 in
theorem wx_k188_35 : (wx_e188).all (fun e => wx_chk (wx_on wx_K35 188 e.2.2.2) rx_ro wx_nb wx_K35 20000 rx_m188 e) = true := by decide +kernel
set_option maxRecDepth 100000 in
theorem wx_k190_35 : (wx_e190).all (fun e => wx_chk (wx_on wx_K35 190 e.2.2.2) rx_ro wx_nb wx_K35 20000 rx_m190 e) = true := by decide +kernel
set_option maxRecDepth 100000 in
theorem wx_k166_35 : (wx_e166).all (fun e => wx_chk (wx_M rx_xM rx_ro wx_T 166 wx_dM wx_iK 600 3) rx_ro wx_nb wx_K35 20000 rx_m166 e) = true := by decide +kernel
