/-! CHECKS -/
set_option maxRecDepth 100000 in
theorem wx_k22_14 : (wx_e22).all (fun e => wx_chk (wx_on wx_K14 22 e.2.2.2) rx_ro wx_nb wx_K14 6000 rx_m22 e) = true := by decide +kernel
set_option maxRecDepth 100000 in
theorem wx_k91_14 : (wx_e91).all (fun e => wx_chk (wx_on wx_K14 91 e.2.2.2) rx_ro wx_nb wx_K14 6000 rx_m91 e) = true := by decide +kernel
set_option maxRecDepth 100000 in
theorem wx_k90_14 : (wx_e90).all (fun e => wx_chk (wx_on wx_K14 90 e.2.2.2) rx_ro wx_nb wx_K14 6000 rx_m90 e) = true := by decide +kernel
set_option maxRecDepth 100000 in
theorem wx_k66_14 : (wx_e66).all (fun e => wx_chk (wx_on wx_K14 66 e.2.2.2) rx_ro wx_nb wx_K14 6000 rx_m66 e) = true := by decide +kernel
set_option maxRecDepth 100000 in
theorem wx_k74_14 : (wx_e74).all (fun e => wx_chk (wx_on wx_K14 74 e.2.2.2) rx_ro wx_nb wx_K14 6000 rx_m74 e) = true := by decide +kernel
set_option maxRecDepth 100000 in
theorem wx_k62_14 : (wx_e62).all (fun e => wx_chk (wx_on wx_K14 62 e.2.2.2) rx_ro wx_nb wx_K14 6000 rx_m62 e) = true := by decide +kernel
set_option maxRecDepth 100000 in
theorem wx_k64_14 : (wx_e64).all (fun e => wx_chk (wx_on wx_K14 64 e.2.2.2) rx_ro wx_nb wx_K14 6000 rx_m64 e) = true := by decide +kernel
set_option maxRecDepth 100000 in
theorem wx_k122_14 : (wx_e122).all (fun e => wx_chk (wx_on wx_K14 122 e.2.2.2) rx_ro wx_nb wx_K14 6000 rx_m122 e) = true := by decide +kernel
set_option maxRecDepth 100000 in
theorem wx_k22_15 : (wx_e22).all (fun e => wx_chk (wx_on wx_K15 22 e.2.2.2) rx_ro wx_nb wx_K15 6000 rx_m22 e) = true := by decide +kernel
set_option maxRecDepth 100000 in
theorem wx_k91_15 : (wx_e91).all (fun e => wx_chk (wx_on wx_K15 91 e.2.2.2) rx_ro wx_nb wx_K15 6000 rx_m91 e) = true := by decide +kernel
set_option maxRecDepth 100000 in
theorem wx_k90_15 : (wx_e90).all (fun e => wx_chk (wx_on wx_K15 90 e.2.2.2) rx_ro wx_nb wx_K15 6000 rx_m90 e) = true := by decide +kernel
set_option maxRecDepth 100000 in
theorem wx_k66_15 : (wx_e66).all (fun e => wx_chk (wx_on wx_K15 66 e.2.2.2) rx_ro wx_nb wx_K15 6000 rx_m66 e) = true := by decide +kernel
set_option maxRecDepth 100000 in
theorem wx_k74_15 : (wx_e74).all (fun e => wx_chk (wx_on wx_K15 74 e.2.2.2) rx_ro wx_nb wx_K15 6000 rx_m74 e) = true := by decide +kernel
set_option maxRecDepth 100000 in
theorem wx_k62_15 : (wx_e62).all (fun e => wx_chk (wx_on wx_K15 62 e.2.2.2) rx_ro wx_nb wx_K15 6000 rx_m62 e) = true := by decide +kernel
set_option maxRecDepth 100000 in
theorem wx_k64_15 : (wx_e64).all (fun e => wx_chk (wx_on wx_K15 64 e.2.2.2) rx_ro wx_nb wx_K15 6000 rx_m64 e) = true := by decide +kernel
set_option maxRecDepth 100000 in
theorem wx_k122_15 : (wx_e122).all (fun e => wx_chk (wx_on wx_K15 122 e.2.2.2) rx_ro wx_nb wx_K15 6000 rx_m122 e) = true := by decide +kernel
set_option maxRecDepth 100000 in
theorem wx_k22_16 : (wx_e22).all (fun e => wx_chk (wx_on wx_K16 22 e.2.2.2) rx_ro wx_nb wx_K16 6000 rx_m22 e) = true := by decide +kernel
set_option maxRecDepth 100000 in
theorem wx_k91_16 : (wx_e91).all (fun e => wx_chk (wx_on wx_K16 91 e.2.2.2) rx_ro wx_nb wx_K16 6000 rx_m91 e) = true := by decide +kernel
set_option maxRecDepth 100000 in
theorem wx_k90_16 : (wx_e90).all (fun e => wx_chk (wx_on wx_K16 90 e.2.2.2) rx_ro wx_nb wx_K16 6000 rx_m90 e) = true := by decide +kernel
set_option maxRecDepth 100000 in
theorem wx_k66_16 : (wx_e66).all (fun e => wx_chk (wx_on wx_K16 66 e.2.2.2) rx_ro wx_nb wx_K16 6000 rx_m66 e) = true := by decide +kernel
set_option maxRecDepth 100000 in
theorem wx_k74_16 : (wx_e74).all (fun e => wx_chk (wx_on wx_K16 74 e.2.2.2) rx_ro wx_nb wx_K16 6000 rx_m74 e) = true := by decide +kernel
set_option maxRecDepth 100000 in
theorem wx_k62_16 : (wx_e62).all (fun e => wx_chk (wx_on wx_K16 62 e.2.2.2) rx_ro wx_nb wx_K16 6000 rx_m62 e) = true := by decide +kernel
set_option maxRecDepth 100000 in
theorem wx_k64_16 : (wx_e64).all (fun e => wx_chk (wx_on wx_K16 64 e.2.2.2) rx_ro wx_nb wx_K16 6000 rx_m64 e) = true := by decide +kernel
set_option maxRecDepth 100000 in
theorem wx_k122_16 : (wx_e122).all (fun e => wx_chk (wx_on wx_K16 122 e.2.2.2) rx_ro wx_nb wx_K16 6000 rx_m122 e) = true := by decide +kernel
set_option maxRecDepth 100000 in
theorem wx_k22_17 : (wx_e22).all (fun e => wx_chk (wx_on wx_K17 22 e.2.2.2) rx_ro wx_nb wx_K17 6000 rx_m22 e) = true := by decide +kernel
set_option maxRecDepth 100000 in
theorem wx_k91_17 : (wx_e91).all (fun e => wx_chk (wx_on wx_K17 91 e.2.2.2) rx_ro wx_nb wx_K17 6000 rx_m91 e) = true := by decide +kernel
set_option maxRecDepth 100000 in
theorem wx_k90_17 : (wx_e90).all (fun e => wx_chk (wx_on wx_K17 90 e.2.2.2) rx_ro wx_nb wx_K17 6000 rx_m90 e) = true := by decide +kernel
set_option maxRecDepth 100000 in
theorem wx_k66_17 : (wx_e66).all (fun e => wx_chk (wx_on wx_K17 66 e.2.2.2) rx_ro wx_nb wx_K17 6000 rx_m66 e) = true := by decide +kernel
set_option maxRecDepth 100000 in
theorem wx_k74_17 : (wx_e74).all (fun e => wx_chk (wx_on wx_K17 74 e.2.2.2) rx_ro wx_nb wx_K17 6000 rx_m74 e) = true := by decide +kernel
set_option maxRecDepth 100000 in
theorem wx_k62_17 : (wx_e62).all (fun e => wx_chk (wx_on wx_K17 62 e.2.2.2) rx_ro wx_nb wx_K17 6000 rx_m62 e) = true := by decide +kernel
set_option maxRecDepth 100000 in
theorem wx_k64_17 : (wx_e64).all (fun e => wx_chk (wx_on wx_K17 64 e.2.2.2) rx_ro wx_nb wx_K17 6000 rx_m64 e) = true := by decide +kernel
set_option maxRecDepth 100000 in
theorem wx_k122_17 : (wx_e122).all (fun e => wx_chk (wx_on wx_K17 122 e.2.2.2) rx_ro wx_nb wx_K17 6000 rx_m122 e) = true := by decide +kernel
set_option maxRecDepth 100000 in
theorem wx_k22_18 : (wx_e22).all (fun e => wx_chk (wx_on wx_K18 22 e.2.2.2) rx_ro wx_nb wx_K18 6000 rx_m22 e) = true := by decide +kernel
set_option maxRecDepth 100000 in
theorem wx_k91_18 : (wx_e91).all (fun e => wx_chk (wx_on wx_K18 91 e.2.2.2) rx_ro wx_nb wx_K18 6000 rx_m91 e) = true := by decide +kernel
set_option maxRecDepth 100000 in
theorem wx_k90_18 : (wx_e90).all (fun e => wx_chk (wx_on wx_K18 90 e.2.2.2) rx_ro wx_nb wx_K18 6000 rx_m90 e) = true := by decide +kernel
set_option maxRecDepth 100000 in
theorem wx_k66_18 : (wx_e66).all (fun e => wx_chk (wx_on wx_K18 66 e.2.2.2) rx_ro wx_nb wx_K18 6000 rx_m66 e) = true := by decide +kernel
set_option maxRecDepth 100000 in
theorem wx_k74_18 : (wx_e74).all (fun e => wx_chk (wx_on wx_K18 74 e.2.2.2) rx_ro wx_nb wx_K18 6000 rx_m74 e) = true := by decide +kernel
set_option maxRecDepth 100000 in
theorem wx_k62_18 : (wx_e62).all (fun e => wx_chk (wx_on wx_K18 62 e.2.2.2) rx_ro wx_nb wx_K18 6000 rx_m62 e) = true := by decide +kernel
set_option maxRecDepth 100000 in
theorem wx_k64_18 : (wx_e64).all (fun e => wx_chk (wx_on wx_K18 64 e.2.2.2) rx_ro wx_nb wx_K18 6000 rx_m64 e) = true := by decide +kernel
set_option maxRecDepth 100000 in
theorem wx_k122_18 : (wx_e122).all (fun e => wx_chk (wx_on wx_K18 122 e.2.2.2) rx_ro wx_nb wx_K18 6000 rx_m122 e) = true := by decide +kernel
set_option maxRecDepth 100000 in
theorem wx_k22_19 : (wx_e22).all (fun e => wx_chk (wx_on wx_K19 22 e.2.2.2) rx_ro wx_nb wx_K19 6000 rx_m22 e) = true := by decide +kernel
set_option maxRecDepth 100000 in
theorem wx_k91_19 : (wx_e91).all (fun e => wx_chk (wx_on wx_K19 91 e.2.2.2) rx_ro wx_nb wx_K19 6000 rx_m91 e) = true := by decide +kernel
set_option maxRecDepth 100000 in
theorem wx_k90_19 : (wx_e90).all (fun e => wx_chk (wx_on wx_K19 90 e.2.2.2) rx_ro wx_nb wx_K19 6000 rx_m90 e) = true := by decide +kernel
set_option maxRecDepth 100000 in
theorem wx_k66_19 : (wx_e66).all (fun e => wx_chk (wx_on wx_K19 66 e.2.2.2) rx_ro wx_nb wx_K19 6000 rx_m66 e) = true := by decide +kernel
set_option maxRecDepth 100000 in
theorem wx_k74_19 : (wx_e74).all (fun e => wx_chk (wx_on wx_K19 74 e.2.2.2) rx_ro wx_nb wx_K19 6000 rx_m74 e) = true := by decide +kernel
set_option maxRecDepth 100000 in
theorem wx_k62_19 : (wx_e62).all (fun e => wx_chk (wx_on wx_K19 62 e.2.2.2) rx_ro wx_nb wx_K19 6000 rx_m62 e) = true := by decide +kernel
set_option maxRecDepth 100000 in
theorem wx_k64_19 : (wx_e64).all (fun e => wx_chk (wx_on wx_K19 64 e.2.2.2) rx_ro wx_nb wx_K19 6000 rx_m64 e) = true := by decide +kernel
set_option maxRecDepth 100000 in
theorem wx_k122_19 : (wx_e122).all (fun e => wx_chk (wx_on wx_K19 122 e.2.2.2) rx_ro wx_nb wx_K19 6000 rx_m122 e) = true := by decide +kernel
set_option maxRecDepth 100000 in
theorem wx_k22_20 : (wx_e22).all (fun e => wx_chk (wx_on wx_K20 22 e.2.2.2) rx_ro wx_nb wx_K20 6000 rx_m22 e) = true := by decide +kernel
set_option maxRecDepth 100000 in
theorem wx_k91_20 : (wx_e91).all (fun e => wx_chk (wx_on wx_K20 91 e.2.2.2) rx_ro wx_nb wx_K20 6000 rx_m91 e) = true := by decide +kernel
set_option maxRecDepth 100000 in
theorem wx_k90_20 : (wx_e90).all (fun e => wx_chk (wx_on wx_K20 90 e.2.2.2) rx_ro wx_nb wx_K20 6000 rx_m90 e) = true := by decide +kernel
set_option maxRecDepth 100000 in
theorem wx_k66_20 : (wx_e66).all (fun e => wx_chk (wx_on wx_K20 66 e.2.2.2) rx_ro wx_nb wx_K20 6000 rx_m66 e) = true := by decide +kernel
set_option maxRecDepth 100000 in
theorem wx_k74_20 : (wx_e74).all (fun e => wx_chk (wx_on wx_K20 74 e.2.2.2) rx_ro wx_nb wx_K20 6000 rx_m74 e) = true := by decide +kernel
set_option maxRecDepth 100000 in
theorem wx_k62_20 : (wx_e62).all (fun e => wx_chk (wx_on wx_K20 62 e.2.2.2) rx_ro wx_nb wx_K20 6000 rx_m62 e) = true := by decide +kernel
set_option maxRecDepth 100000 in
theorem wx_k64_20 : (wx_e64).all (fun e => wx_chk (wx_on wx_K20 64 e.2.2.2) rx_ro wx_nb wx_K20 6000 rx_m64 e) = true := by decide +kernel
set_option maxRecDepth 100000 in
theorem wx_k122_20 : (wx_e122).all (fun e => wx_chk (wx_on wx_K20 122 e.2.2.2) rx_ro wx_nb wx_K20 6000 rx_m122 e) = true := by decide +kernel
set_option maxRecDepth 100000 in
theorem wx_k22_21 : (wx_e22).all (fun e => wx_chk (wx_on wx_K21 22 e.2.2.2) rx_ro wx_nb wx_K21 6000 rx_m22 e) = true := by decide +kernel
set_option maxRecDepth 100000 in
theorem wx_k91_21 : (wx_e91).all (fun e => wx_chk (wx_on wx_K21 91 e.2.2.2) rx_ro wx_nb wx_K21 6000 rx_m91 e) = true := by decide +kernel
set_option maxRecDepth 100000 in
theorem wx_k90_21 : (wx_e90).all (fun e => wx_chk (wx_on wx_K21 90 e.2.2.2) rx_ro wx_nb wx_K21 6000 rx_m90 e) = true := by decide +kernel
set_option maxRecDepth 100000 in
theorem wx_k66_21 : (wx_e66).all (fun e => wx_chk (wx_on wx_K21 66 e.2.2.2) rx_ro wx_nb wx_K21 6000 rx_m66 e) = true := by decide +kernel
set_option maxRecDepth 100000 in
theorem wx_k74_21 : (wx_e74).all (fun e => wx_chk (wx_on wx_K21 74 e.2.2.2) rx_ro wx_nb wx_K21 6000 rx_m74 e) = true := by decide +kernel
set_option maxRecDepth 100000 in
theorem wx_k62_21 : (wx_e62).all (fun e => wx_chk (wx_on wx_K21 62 e.2.2.2) rx_ro wx_nb wx_K21 6000 rx_m62 e) = true := by decide +kernel
set_option maxRecDepth 100000 in
theorem wx_k64_21 : (wx_e64).all (fun e => wx_chk (wx_on wx_K21 64 e.2.2.2) rx_ro wx_nb wx_K21 6000 rx_m64 e) = true := by decide +kernel
set_option maxRecDepth 100000 in
theorem wx_k122_21 : (wx_e122).all (fun e => wx_chk (wx_on wx_K21 122 e.2.2.2) rx_ro wx_nb wx_K21 6000 rx_m122 e) = true := by decide +kernel
set_option maxRecDepth 100000 in
theorem wx_k22_22 : (wx_e22).all (fun e => wx_chk (wx_on wx_K22 22 e.2.2.2) rx_ro wx_nb wx_K22 6000 rx_m22 e) = true := by decide +kernel
set_option maxRecDepth 100000 in
theorem wx_k91_22 : (wx_e91).all (fun e => wx_chk (wx_on wx_K22 91 e.2.2.2) rx_ro wx_nb wx_K22 6000 rx_m91 e) = true := by decide +kernel
set_option maxRecDepth 100000 in
theorem wx_k90_22 : (wx_e90).all (fun e => wx_chk (wx_on wx_K22 90 e.2.2.2) rx_ro wx_nb wx_K22 6000 rx_m90 e) = true := by decide +kernel
set_option maxRecDepth 100000 in
theorem wx_k66_22 : (wx_e66).all (fun e => wx_chk (wx_on wx_K22 66 e.2.2.2) rx_ro wx_nb wx_K22 6000 rx_m66 e) = true := by decide +kernel
set_option maxRecDepth 100000 in
theorem wx_k74_22 : (wx_e74).all (fun e => wx_chk (wx_on wx_K22 74 e.2.2.2) rx_ro wx_nb wx_K22 6000 rx_m74 e) = true := by decide +kernel
set_option maxRecDepth 100000 in
theorem wx_k62_22 : (wx_e62).all (fun e => wx_chk (wx_on wx_K22 62 e.2.2.2) rx_ro wx_nb wx_K22 6000 rx_m62 e) = true := by decide +kernel
set_option maxRecDepth 100000 in
theorem wx_k64_22 : (wx_e64).all (fun e => wx_chk (wx_on wx_K22 64 e.2.2.2) rx_ro wx_nb wx_K22 6000 rx_m64 e) = true := by decide +kernel
set_option maxRecDepth 100000 in
theorem wx_k122_22 : (wx_e122).all (fun e => wx_chk (wx_on wx_K22 122 e.2.2.2) rx_ro wx_nb wx_K22 6000 rx_m122 e) = true := by decide +kernel
set_option maxRecDepth 100000 in
theorem wx_k22_23 : (wx_e22).all (fun e => wx_chk (wx_on wx_K23 22 e.2.2.2) rx_ro wx_nb wx_K23 6000 rx_m22 e) = true := by decide +kernel
set_option maxRecDepth 100000 in
theorem wx_k91_23 : (wx_e91).all (fun e => wx_chk (wx_on wx_K23 91 e.2.2.2) rx_ro wx_nb wx_K23 6000 rx_m91 e) = true := by decide +kernel
set_option maxRecDepth 100000 in
theorem wx_k90_23 : (wx_e90).all (fun e => wx_chk (wx_on wx_K23 90 e.2.2.2) rx_ro wx_nb wx_K23 6000 rx_m90 e) = true := by decide +kernel
set_option maxRecDepth 100000 in
theorem wx_k66_23 : (wx_e66).all (fun e => wx_chk (wx_on wx_K23 66 e.2.2.2) rx_ro wx_nb wx_K23 6000 rx_m66 e) = true := by decide +kernel
set_option maxRecDepth 100000 in
theorem wx_k74_23 : (wx_e74).all (fun e => wx_chk (wx_on wx_K23 74 e.2.2.2) rx_ro wx_nb wx_K23 6000 rx_m74 e) = true := by decide +kernel
set_option maxRecDepth 100000 in
theorem wx_k62_23 : (wx_e62).all (fun e => wx_chk (wx_on wx_K23 62 e.2.2.2) rx_ro wx_nb wx_K23 6000 rx_m62 e) = true := by decide +kernel
set_option maxRecDepth 100000 in
theorem wx_k64_23 : (wx_e64).all (fun e => wx_chk (wx_on wx_K23 64 e.2.2.2) rx_ro wx_nb wx_K23 6000 rx_m64 e) = true := by decide +kernel
set_option maxRecDepth 100000 in
theorem wx_k122_23 : (wx_e122).all (fun e => wx_chk (wx_on wx_K23 122 e.2.2.2) rx_ro wx_nb wx_K23 6000 rx_m122 e) = true := by decide +kernel
set_option maxRecDepth 100000 in
theorem wx_k22_24 : (wx_e22).all (fun e => wx_chk (wx_on wx_K24 22 e.2.2.2) rx_ro wx_nb wx_K24 6000 rx_m22 e) = true := by decide +kernel
set_option maxRecDepth 100000 in
theorem wx_k91_24 : (wx_e91).all (fun e => wx_chk (wx_on wx_K24 91 e.2.2.2) rx_ro wx_nb wx_K24 6000 rx_m91 e) = true := by decide +kernel
set_option maxRecDepth 100000 in
theorem wx_k90_24 : (wx_e90).all (fun e => wx_chk (wx_on wx_K24 90 e.2.2.2) rx_ro wx_nb wx_K24 6000 rx_m90 e) = true := by decide +kernel
set_option maxRecDepth 100000 in
theorem wx_k66_24 : (wx_e66).all (fun e => wx_chk (wx_on wx_K24 66 e.2.2.2) rx_ro wx_nb wx_K24 6000 rx_m66 e) = true := by decide +kernel
set_option maxRecDepth 100000 in
theorem wx_k74_24 : (wx_e74).all (fun e => wx_chk (wx_on wx_K24 74 e.2.2.2) rx_ro wx_nb wx_K24 6000 rx_m74 e) = true := by decide +kernel
set_option maxRecDepth 100000 in
theorem wx_k62_24 : (wx_e62).all (fun e => wx_chk (wx_on wx_K24 62 e.2.2.2) rx_ro wx_nb wx_K24 6000 rx_m62 e) = true := by decide +kernel
set_option maxRecDepth 100000 in
theorem wx_k64_24 : (wx_e64).all (fun e => wx_chk (wx_on wx_K24 64 e.2.2.2) rx_ro wx_nb wx_K24 6000 rx_m64 e) = true := by decide +kernel
set_option maxRecDepth 100000 in
theorem wx_k122_24 : (wx_e122).all (fun e => wx_chk (wx_on wx_K24 122 e.2.2.2) rx_ro wx_nb wx_K24 6000 rx_m122 e) = true := by decide +kernel
set_option maxRecDepth 100000 in
theorem wx_k22_25 : (wx_e22).all (fun e => wx_chk (wx_on wx_K25 22 e.2.2.2) rx_ro wx_nb wx_K25 6000 rx_m22 e) = true := by decide +kernel
set_option maxRecDepth 100000 in
theorem wx_k91_25 : (wx_e91).all (fun e => wx_chk (wx_on wx_K25 91 e.2.2.2) rx_ro wx_nb wx_K25 6000 rx_m91 e) = true := by decide +kernel
set_option maxRecDepth 100000 in
theorem wx_k90_25 : (wx_e90).all (fun e => wx_chk (wx_on wx_K25 90 e.2.2.2) rx_ro wx_nb wx_K25 6000 rx_m90 e) = true := by decide +kernel
set_option maxRecDepth 100000 in
theorem wx_k66_25 : (wx_e66).all (fun e => wx_chk (wx_on wx_K25 66 e.2.2.2) rx_ro wx_nb wx_K25 6000 rx_m66 e) = true := by decide +kernel
set_option maxRecDepth 100000 in
theorem wx_k74_25 : (wx_e74).all (fun e => wx_chk (wx_on wx_K25 74 e.2.2.2) rx_ro wx_nb wx_K25 6000 rx_m74 e) = true := by decide +kernel
set_option maxRecDepth 100000 in
theorem wx_k62_25 : (wx_e62).all (fun e => wx_chk (wx_on wx_K25 62 e.2.2.2) rx_ro wx_nb wx_K25 6000 rx_m62 e) = true := by decide +kernel
set_option maxRecDepth 100000 in
theorem wx_k64_25 : (wx_e64).all (fun e => wx_chk (wx_on wx_K25 64 e.2.2.2) rx_ro wx_nb wx_K25 6000 rx_m64 e) = true := by decide +kernel
set_option maxRecDepth 100000 in
theorem wx_k122_25 : (wx_e122).all (fun e => wx_chk (wx_on wx_K25 122 e.2.2.2) rx_ro wx_nb wx_K25 6000 rx_m122 e) = true := by decide +kernel
set_option maxRecDepth 100000 in
theorem wx_k22_26 : (wx_e22).all (fun e => wx_chk (wx_on wx_K26 22 e.2.2.2) rx_ro wx_nb wx_K26 6000 rx_m22 e) = true := by decide +kernel
set_option maxRecDepth 100000 in
theorem wx_k91_26 : (wx_e91).all (fun e => wx_chk (wx_on wx_K26 91 e.2.2.2) rx_ro wx_nb wx_K26 6000 rx_m91 e) = true := by decide +kernel
set_option maxRecDepth 100000 in
theorem wx_k90_26 : (wx_e90).all (fun e => wx_chk (wx_on wx_K26 90 e.2.2.2) rx_ro wx_nb wx_K26 6000 rx_m90 e) = true := by decide +kernel
set_option maxRecDepth 100000 in
theorem wx_k66_26 : (wx_e66).all (fun e => wx_chk (wx_on wx_K26 66 e.2.2.2) rx_ro wx_nb wx_K26 6000 rx_m66 e) = true := by decide +kernel
set_option maxRecDepth 100000 in
theorem wx_k74_26 : (wx_e74).all (fun e => wx_chk (wx_on wx_K26 74 e.2.2.2) rx_ro wx_nb wx_K26 6000 rx_m74 e) = true := by decide +kernel
set_option maxRecDepth 100000 in
theorem wx_k62_26 : (wx_e62).all (fun e => wx_chk (wx_on wx_K26 62 e.2.2.2) rx_ro wx_nb wx_K26 6000 rx_m62 e) = true := by decide +kernel
set_option maxRecDepth 100000 in
theorem wx_k64_26 : (wx_e64).all (fun e => wx_chk (wx_on wx_K26 64 e.2.2.2) rx_ro wx_nb wx_K26 6000 rx_m64 e) = true := by decide +kernel
set_option maxRecDepth 100000 in
theorem wx_k122_26 : (wx_e122).all (fun e => wx_chk (wx_on wx_K26 122 e.2.2.2) rx_ro wx_nb wx_K26 6000 rx_m122 e) = true := by decide +kernel
set_option maxRecDepth 100000 in
theorem wx_k22_27 : (wx_e22).all (fun e => wx_chk (wx_on wx_K27 22 e.2.2.2) rx_ro wx_nb wx_K27 6000 rx_m22 e) = true := by decide +kernel
set_option maxRecDepth 100000 in
theorem wx_k91_27 : (wx_e91).all (fun e => wx_chk (wx_on wx_K27 91 e.2.2.2) rx_ro wx_nb wx_K27 6000 rx_m91 e) = true := by decide +kernel
set_option maxRecDepth 100000 in
theorem wx_k90_27 : (wx_e90).all (fun e => wx_chk (wx_on wx_K27 90 e.2.2.2) rx_ro wx_nb wx_K27 6000 rx_m90 e) = true := by decide +kernel
set_option maxRecDepth 100000 in
theorem wx_k66_27 : (wx_e66).all (fun e => wx_chk (wx_on wx_K27 66 e.2.2.2) rx_ro wx_nb wx_K27 6000 rx_m66 e) = true := by decide +kernel
set_option maxRecDepth 100000 in
theorem wx_k74_27 : (wx_e74).all (fun e => wx_chk (wx_on wx_K27 74 e.2.2.2) rx_ro wx_nb wx_K27 6000 rx_m74 e) = true := by decide +kernel
set_option maxRecDepth 100000 in
theorem wx_k62_27 : (wx_e62).all (fun e => wx_chk (wx_on wx_K27 62 e.2.2.2) rx_ro wx_nb wx_K27 6000 rx_m62 e) = true := by decide +kernel
set_option maxRecDepth 100000 in
theorem wx_k64_27 : (wx_e64).all (fun e => wx_chk (wx_on wx_K27 64 e.2.2.2) rx_ro wx_nb wx_K27 6000 rx_m64 e) = true := by decide +kernel
set_option maxRecDepth 100000 in
theorem wx_k122_27 : (wx_e122).all (fun e => wx_chk (wx_on wx_K27 122 e.2.2.2) rx_ro wx_nb wx_K27 6000 rx_m122 e) = true := by decide +kernel
