/-! CHECKS -/
set_option maxRecDepth 100000 in
theorem wx_k22_0 : (wx_e22).all (fun e => wx_chk (wx_on wx_K0 22 e.2.2.2) rx_ro wx_nb wx_K0 6000 rx_m22 e) = true := by decide +kernel
set_option maxRecDepth 100000 in
theorem wx_k91_0 : (wx_e91).all (fun e => wx_chk (wx_on wx_K0 91 e.2.2.2) rx_ro wx_nb wx_K0 6000 rx_m91 e) = true := by decide +kernel
set_option maxRecDepth 100000 in
theorem wx_k90_0 : (wx_e90).all (fun e => wx_chk (wx_on wx_K0 90 e.2.2.2) rx_ro wx_nb wx_K0 6000 rx_m90 e) = true := by decide +kernel
set_option maxRecDepth 100000 in
theorem wx_k66_0 : (wx_e66).all (fun e => wx_chk (wx_on wx_K0 66 e.2.2.2) rx_ro wx_nb wx_K0 6000 rx_m66 e) = true := by decide +kernel
set_option maxRecDepth 100000 in
theorem wx_k74_0 : (wx_e74).all (fun e => wx_chk (wx_on wx_K0 74 e.2.2.2) rx_ro wx_nb wx_K0 6000 rx_m74 e) = true := by decide +kernel
set_option maxRecDepth 100000 in
theorem wx_k62_0 : (wx_e62).all (fun e => wx_chk (wx_on wx_K0 62 e.2.2.2) rx_ro wx_nb wx_K0 6000 rx_m62 e) = true := by decide +kernel
set_option maxRecDepth 100000 in
theorem wx_k64_0 : (wx_e64).all (fun e => wx_chk (wx_on wx_K0 64 e.2.2.2) rx_ro wx_nb wx_K0 6000 rx_m64 e) = true := by decide +kernel
set_option maxRecDepth 100000 in
theorem wx_k122_0 : (wx_e122).all (fun e => wx_chk (wx_on wx_K0 122 e.2.2.2) rx_ro wx_nb wx_K0 6000 rx_m122 e) = true := by decide +kernel
set_option maxRecDepth 100000 in
theorem wx_k22_1 : (wx_e22).all (fun e => wx_chk (wx_on wx_K1 22 e.2.2.2) rx_ro wx_nb wx_K1 6000 rx_m22 e) = true := by decide +kernel
set_option maxRecDepth 100000 in
theorem wx_k91_1 : (wx_e91).all (fun e => wx_chk (wx_on wx_K1 91 e.2.2.2) rx_ro wx_nb wx_K1 6000 rx_m91 e) = true := by decide +kernel
set_option maxRecDepth 100000 in
theorem wx_k90_1 : (wx_e90).all (fun e => wx_chk (wx_on wx_K1 90 e.2.2.2) rx_ro wx_nb wx_K1 6000 rx_m90 e) = true := by decide +kernel
set_option maxRecDepth 100000 in
theorem wx_k66_1 : (wx_e66).all (fun e => wx_chk (wx_on wx_K1 66 e.2.2.2) rx_ro wx_nb wx_K1 6000 rx_m66 e) = true := by decide +kernel
set_option maxRecDepth 100000 in
theorem wx_k74_1 : (wx_e74).all (fun e => wx_chk (wx_on wx_K1 74 e.2.2.2) rx_ro wx_nb wx_K1 6000 rx_m74 e) = true := by decide +kernel
set_option maxRecDepth 100000 in
theorem wx_k62_1 : (wx_e62).all (fun e => wx_chk (wx_on wx_K1 62 e.2.2.2) rx_ro wx_nb wx_K1 6000 rx_m62 e) = true := by decide +kernel
set_option maxRecDepth 100000 in
theorem wx_k64_1 : (wx_e64).all (fun e => wx_chk (wx_on wx_K1 64 e.2.2.2) rx_ro wx_nb wx_K1 6000 rx_m64 e) = true := by decide +kernel
set_option maxRecDepth 100000 in
theorem wx_k122_1 : (wx_e122).all (fun e => wx_chk (wx_on wx_K1 122 e.2.2.2) rx_ro wx_nb wx_K1 6000 rx_m122 e) = true := by decide +kernel
set_option maxRecDepth 100000 in
theorem wx_k22_2 : (wx_e22).all (fun e => wx_chk (wx_on wx_K2 22 e.2.2.2) rx_ro wx_nb wx_K2 6000 rx_m22 e) = true := by decide +kernel
set_option maxRecDepth 100000 in
theorem wx_k91_2 : (wx_e91).all (fun e => wx_chk (wx_on wx_K2 91 e.2.2.2) rx_ro wx_nb wx_K2 6000 rx_m91 e) = true := by decide +kernel
set_option maxRecDepth 100000 in
theorem wx_k90_2 : (wx_e90).all (fun e => wx_chk (wx_on wx_K2 90 e.2.2.2) rx_ro wx_nb wx_K2 6000 rx_m90 e) = true := by decide +kernel
set_option maxRecDepth 100000 in
theorem wx_k66_2 : (wx_e66).all (fun e => wx_chk (wx_on wx_K2 66 e.2.2.2) rx_ro wx_nb wx_K2 6000 rx_m66 e) = true := by decide +kernel
set_option maxRecDepth 100000 in
theorem wx_k74_2 : (wx_e74).all (fun e => wx_chk (wx_on wx_K2 74 e.2.2.2) rx_ro wx_nb wx_K2 6000 rx_m74 e) = true := by decide +kernel
set_option maxRecDepth 100000 in
theorem wx_k62_2 : (wx_e62).all (fun e => wx_chk (wx_on wx_K2 62 e.2.2.2) rx_ro wx_nb wx_K2 6000 rx_m62 e) = true := by decide +kernel
set_option maxRecDepth 100000 in
theorem wx_k64_2 : (wx_e64).all (fun e => wx_chk (wx_on wx_K2 64 e.2.2.2) rx_ro wx_nb wx_K2 6000 rx_m64 e) = true := by decide +kernel
set_option maxRecDepth 100000 in
theorem wx_k122_2 : (wx_e122).all (fun e => wx_chk (wx_on wx_K2 122 e.2.2.2) rx_ro wx_nb wx_K2 6000 rx_m122 e) = true := by decide +kernel
set_option maxRecDepth 100000 in
theorem wx_k22_3 : (wx_e22).all (fun e => wx_chk (wx_on wx_K3 22 e.2.2.2) rx_ro wx_nb wx_K3 6000 rx_m22 e) = true := by decide +kernel
set_option maxRecDepth 100000 in
theorem wx_k91_3 : (wx_e91).all (fun e => wx_chk (wx_on wx_K3 91 e.2.2.2) rx_ro wx_nb wx_K3 6000 rx_m91 e) = true := by decide +kernel
set_option maxRecDepth 100000 in
theorem wx_k90_3 : (wx_e90).all (fun e => wx_chk (wx_on wx_K3 90 e.2.2.2) rx_ro wx_nb wx_K3 6000 rx_m90 e) = true := by decide +kernel
set_option maxRecDepth 100000 in
theorem wx_k66_3 : (wx_e66).all (fun e => wx_chk (wx_on wx_K3 66 e.2.2.2) rx_ro wx_nb wx_K3 6000 rx_m66 e) = true := by decide +kernel
set_option maxRecDepth 100000 in
theorem wx_k74_3 : (wx_e74).all (fun e => wx_chk (wx_on wx_K3 74 e.2.2.2) rx_ro wx_nb wx_K3 6000 rx_m74 e) = true := by decide +kernel
set_option maxRecDepth 100000 in
theorem wx_k62_3 : (wx_e62).all (fun e => wx_chk (wx_on wx_K3 62 e.2.2.2) rx_ro wx_nb wx_K3 6000 rx_m62 e) = true := by decide +kernel
set_option maxRecDepth 100000 in
theorem wx_k64_3 : (wx_e64).all (fun e => wx_chk (wx_on wx_K3 64 e.2.2.2) rx_ro wx_nb wx_K3 6000 rx_m64 e) = true := by decide +kernel
set_option maxRecDepth 100000 in
theorem wx_k122_3 : (wx_e122).all (fun e => wx_chk (wx_on wx_K3 122 e.2.2.2) rx_ro wx_nb wx_K3 6000 rx_m122 e) = true := by decide +kernel
set_option maxRecDepth 100000 in
theorem wx_k22_4 : (wx_e22).all (fun e => wx_chk (wx_on wx_K4 22 e.2.2.2) rx_ro wx_nb wx_K4 6000 rx_m22 e) = true := by decide +kernel
set_option maxRecDepth 100000 in
theorem wx_k91_4 : (wx_e91).all (fun e => wx_chk (wx_on wx_K4 91 e.2.2.2) rx_ro wx_nb wx_K4 6000 rx_m91 e) = true := by decide +kernel
set_option maxRecDepth 100000 in
theorem wx_k90_4 : (wx_e90).all (fun e => wx_chk (wx_on wx_K4 90 e.2.2.2) rx_ro wx_nb wx_K4 6000 rx_m90 e) = true := by decide +kernel
set_option maxRecDepth 100000 in
theorem wx_k66_4 : (wx_e66).all (fun e => wx_chk (wx_on wx_K4 66 e.2.2.2) rx_ro wx_nb wx_K4 6000 rx_m66 e) = true := by decide +kernel
set_option maxRecDepth 100000 in
theorem wx_k74_4 : (wx_e74).all (fun e => wx_chk (wx_on wx_K4 74 e.2.2.2) rx_ro wx_nb wx_K4 6000 rx_m74 e) = true := by decide +kernel
set_option maxRecDepth 100000 in
theorem wx_k62_4 : (wx_e62).all (fun e => wx_chk (wx_on wx_K4 62 e.2.2.2) rx_ro wx_nb wx_K4 6000 rx_m62 e) = true := by decide +kernel
set_option maxRecDepth 100000 in
theorem wx_k64_4 : (wx_e64).all (fun e => wx_chk (wx_on wx_K4 64 e.2.2.2) rx_ro wx_nb wx_K4 6000 rx_m64 e) = true := by decide +kernel
set_option maxRecDepth 100000 in
theorem wx_k122_4 : (wx_e122).all (fun e => wx_chk (wx_on wx_K4 122 e.2.2.2) rx_ro wx_nb wx_K4 6000 rx_m122 e) = true := by decide +kernel
set_option maxRecDepth 100000 in
theorem wx_k22_5 : (wx_e22).all (fun e => wx_chk (wx_on wx_K5 22 e.2.2.2) rx_ro wx_nb wx_K5 6000 rx_m22 e) = true := by decide +kernel
set_option maxRecDepth 100000 in
theorem wx_k91_5 : (wx_e91).all (fun e => wx_chk (wx_on wx_K5 91 e.2.2.2) rx_ro wx_nb wx_K5 6000 rx_m91 e) = true := by decide +kernel
set_option maxRecDepth 100000 in
theorem wx_k90_5 : (wx_e90).all (fun e => wx_chk (wx_on wx_K5 90 e.2.2.2) rx_ro wx_nb wx_K5 6000 rx_m90 e) = true := by decide +kernel
set_option maxRecDepth 100000 in
theorem wx_k66_5 : (wx_e66).all (fun e => wx_chk (wx_on wx_K5 66 e.2.2.2) rx_ro wx_nb wx_K5 6000 rx_m66 e) = true := by decide +kernel
set_option maxRecDepth 100000 in
theorem wx_k74_5 : (wx_e74).all (fun e => wx_chk (wx_on wx_K5 74 e.2.2.2) rx_ro wx_nb wx_K5 6000 rx_m74 e) = true := by decide +kernel
set_option maxRecDepth 100000 in
theorem wx_k62_5 : (wx_e62).all (fun e => wx_chk (wx_on wx_K5 62 e.2.2.2) rx_ro wx_nb wx_K5 6000 rx_m62 e) = true := by decide +kernel
set_option maxRecDepth 100000 in
theorem wx_k64_5 : (wx_e64).all (fun e => wx_chk (wx_on wx_K5 64 e.2.2.2) rx_ro wx_nb wx_K5 6000 rx_m64 e) = true := by decide +kernel
set_option maxRecDepth 100000 in
theorem wx_k122_5 : (wx_e122).all (fun e => wx_chk (wx_on wx_K5 122 e.2.2.2) rx_ro wx_nb wx_K5 6000 rx_m122 e) = true := by decide +kernel
set_option maxRecDepth 100000 in
theorem wx_k22_6 : (wx_e22).all (fun e => wx_chk (wx_on wx_K6 22 e.2.2.2) rx_ro wx_nb wx_K6 6000 rx_m22 e) = true := by decide +kernel
set_option maxRecDepth 100000 in
theorem wx_k91_6 : (wx_e91).all (fun e => wx_chk (wx_on wx_K6 91 e.2.2.2) rx_ro wx_nb wx_K6 6000 rx_m91 e) = true := by decide +kernel
set_option maxRecDepth 100000 in
theorem wx_k90_6 : (wx_e90).all (fun e => wx_chk (wx_on wx_K6 90 e.2.2.2) rx_ro wx_nb wx_K6 6000 rx_m90 e) = true := by decide +kernel
set_option maxRecDepth 100000 in
theorem wx_k66_6 : (wx_e66).all (fun e => wx_chk (wx_on wx_K6 66 e.2.2.2) rx_ro wx_nb wx_K6 6000 rx_m66 e) = true := by decide +kernel
set_option maxRecDepth 100000 in
theorem wx_k74_6 : (wx_e74).all (fun e => wx_chk (wx_on wx_K6 74 e.2.2.2) rx_ro wx_nb wx_K6 6000 rx_m74 e) = true := by decide +kernel
set_option maxRecDepth 100000 in
theorem wx_k62_6 : (wx_e62).all (fun e => wx_chk (wx_on wx_K6 62 e.2.2.2) rx_ro wx_nb wx_K6 6000 rx_m62 e) = true := by decide +kernel
set_option maxRecDepth 100000 in
theorem wx_k64_6 : (wx_e64).all (fun e => wx_chk (wx_on wx_K6 64 e.2.2.2) rx_ro wx_nb wx_K6 6000 rx_m64 e) = true := by decide +kernel
set_option maxRecDepth 100000 in
theorem wx_k122_6 : (wx_e122).all (fun e => wx_chk (wx_on wx_K6 122 e.2.2.2) rx_ro wx_nb wx_K6 6000 rx_m122 e) = true := by decide +kernel
set_option maxRecDepth 100000 in
theorem wx_k22_7 : (wx_e22).all (fun e => wx_chk (wx_on wx_K7 22 e.2.2.2) rx_ro wx_nb wx_K7 6000 rx_m22 e) = true := by decide +kernel
set_option maxRecDepth 100000 in
theorem wx_k91_7 : (wx_e91).all (fun e => wx_chk (wx_on wx_K7 91 e.2.2.2) rx_ro wx_nb wx_K7 6000 rx_m91 e) = true := by decide +kernel
set_option maxRecDepth 100000 in
theorem wx_k90_7 : (wx_e90).all (fun e => wx_chk (wx_on wx_K7 90 e.2.2.2) rx_ro wx_nb wx_K7 6000 rx_m90 e) = true := by decide +kernel
set_option maxRecDepth 100000 in
theorem wx_k66_7 : (wx_e66).all (fun e => wx_chk (wx_on wx_K7 66 e.2.2.2) rx_ro wx_nb wx_K7 6000 rx_m66 e) = true := by decide +kernel
set_option maxRecDepth 100000 in
theorem wx_k74_7 : (wx_e74).all (fun e => wx_chk (wx_on wx_K7 74 e.2.2.2) rx_ro wx_nb wx_K7 6000 rx_m74 e) = true := by decide +kernel
set_option maxRecDepth 100000 in
theorem wx_k62_7 : (wx_e62).all (fun e => wx_chk (wx_on wx_K7 62 e.2.2.2) rx_ro wx_nb wx_K7 6000 rx_m62 e) = true := by decide +kernel
set_option maxRecDepth 100000 in
theorem wx_k64_7 : (wx_e64).all (fun e => wx_chk (wx_on wx_K7 64 e.2.2.2) rx_ro wx_nb wx_K7 6000 rx_m64 e) = true := by decide +kernel
set_option maxRecDepth 100000 in
theorem wx_k122_7 : (wx_e122).all (fun e => wx_chk (wx_on wx_K7 122 e.2.2.2) rx_ro wx_nb wx_K7 6000 rx_m122 e) = true := by decide +kernel
set_option maxRecDepth 100000 in
theorem wx_k22_8 : (wx_e22).all (fun e => wx_chk (wx_on wx_K8 22 e.2.2.2) rx_ro wx_nb wx_K8 6000 rx_m22 e) = true := by decide +kernel
set_option maxRecDepth 100000 in
theorem wx_k91_8 : (wx_e91).all (fun e => wx_chk (wx_on wx_K8 91 e.2.2.2) rx_ro wx_nb wx_K8 6000 rx_m91 e) = true := by decide +kernel
set_option maxRecDepth 100000 in
theorem wx_k90_8 : (wx_e90).all (fun e => wx_chk (wx_on wx_K8 90 e.2.2.2) rx_ro wx_nb wx_K8 6000 rx_m90 e) = true := by decide +kernel
set_option maxRecDepth 100000 in
theorem wx_k66_8 : (wx_e66).all (fun e => wx_chk (wx_on wx_K8 66 e.2.2.2) rx_ro wx_nb wx_K8 6000 rx_m66 e) = true := by decide +kernel
set_option maxRecDepth 100000 in
theorem wx_k74_8 : (wx_e74).all (fun e => wx_chk (wx_on wx_K8 74 e.2.2.2) rx_ro wx_nb wx_K8 6000 rx_m74 e) = true := by decide +kernel
set_option maxRecDepth 100000 in
theorem wx_k62_8 : (wx_e62).all (fun e => wx_chk (wx_on wx_K8 62 e.2.2.2) rx_ro wx_nb wx_K8 6000 rx_m62 e) = true := by decide +kernel
set_option maxRecDepth 100000 in
theorem wx_k64_8 : (wx_e64).all (fun e => wx_chk (wx_on wx_K8 64 e.2.2.2) rx_ro wx_nb wx_K8 6000 rx_m64 e) = true := by decide +kernel
set_option maxRecDepth 100000 in
theorem wx_k122_8 : (wx_e122).all (fun e => wx_chk (wx_on wx_K8 122 e.2.2.2) rx_ro wx_nb wx_K8 6000 rx_m122 e) = true := by decide +kernel
set_option maxRecDepth 100000 in
theorem wx_k22_9 : (wx_e22).all (fun e => wx_chk (wx_on wx_K9 22 e.2.2.2) rx_ro wx_nb wx_K9 6000 rx_m22 e) = true := by decide +kernel
set_option maxRecDepth 100000 in
theorem wx_k91_9 : (wx_e91).all (fun e => wx_chk (wx_on wx_K9 91 e.2.2.2) rx_ro wx_nb wx_K9 6000 rx_m91 e) = true := by decide +kernel
set_option maxRecDepth 100000 in
theorem wx_k90_9 : (wx_e90).all (fun e => wx_chk (wx_on wx_K9 90 e.2.2.2) rx_ro wx_nb wx_K9 6000 rx_m90 e) = true := by decide +kernel
set_option maxRecDepth 100000 in
theorem wx_k66_9 : (wx_e66).all (fun e => wx_chk (wx_on wx_K9 66 e.2.2.2) rx_ro wx_nb wx_K9 6000 rx_m66 e) = true := by decide +kernel
set_option maxRecDepth 100000 in
theorem wx_k74_9 : (wx_e74).all (fun e => wx_chk (wx_on wx_K9 74 e.2.2.2) rx_ro wx_nb wx_K9 6000 rx_m74 e) = true := by decide +kernel
set_option maxRecDepth 100000 in
theorem wx_k62_9 : (wx_e62).all (fun e => wx_chk (wx_on wx_K9 62 e.2.2.2) rx_ro wx_nb wx_K9 6000 rx_m62 e) = true := by decide +kernel
set_option maxRecDepth 100000 in
theorem wx_k64_9 : (wx_e64).all (fun e => wx_chk (wx_on wx_K9 64 e.2.2.2) rx_ro wx_nb wx_K9 6000 rx_m64 e) = true := by decide +kernel
set_option maxRecDepth 100000 in
theorem wx_k122_9 : (wx_e122).all (fun e => wx_chk (wx_on wx_K9 122 e.2.2.2) rx_ro wx_nb wx_K9 6000 rx_m122 e) = true := by decide +kernel
set_option maxRecDepth 100000 in
theorem wx_k22_10 : (wx_e22).all (fun e => wx_chk (wx_on wx_K10 22 e.2.2.2) rx_ro wx_nb wx_K10 6000 rx_m22 e) = true := by decide +kernel
set_option maxRecDepth 100000 in
theorem wx_k91_10 : (wx_e91).all (fun e => wx_chk (wx_on wx_K10 91 e.2.2.2) rx_ro wx_nb wx_K10 6000 rx_m91 e) = true := by decide +kernel
set_option maxRecDepth 100000 in
theorem wx_k90_10 : (wx_e90).all (fun e => wx_chk (wx_on wx_K10 90 e.2.2.2) rx_ro wx_nb wx_K10 6000 rx_m90 e) = true := by decide +kernel
set_option maxRecDepth 100000 in
theorem wx_k66_10 : (wx_e66).all (fun e => wx_chk (wx_on wx_K10 66 e.2.2.2) rx_ro wx_nb wx_K10 6000 rx_m66 e) = true := by decide +kernel
set_option maxRecDepth 100000 in
theorem wx_k74_10 : (wx_e74).all (fun e => wx_chk (wx_on wx_K10 74 e.2.2.2) rx_ro wx_nb wx_K10 6000 rx_m74 e) = true := by decide +kernel
set_option maxRecDepth 100000 in
theorem wx_k62_10 : (wx_e62).all (fun e => wx_chk (wx_on wx_K10 62 e.2.2.2) rx_ro wx_nb wx_K10 6000 rx_m62 e) = true := by decide +kernel
set_option maxRecDepth 100000 in
theorem wx_k64_10 : (wx_e64).all (fun e => wx_chk (wx_on wx_K10 64 e.2.2.2) rx_ro wx_nb wx_K10 6000 rx_m64 e) = true := by decide +kernel
set_option maxRecDepth 100000 in
theorem wx_k122_10 : (wx_e122).all (fun e => wx_chk (wx_on wx_K10 122 e.2.2.2) rx_ro wx_nb wx_K10 6000 rx_m122 e) = true := by decide +kernel
set_option maxRecDepth 100000 in
theorem wx_k22_11 : (wx_e22).all (fun e => wx_chk (wx_on wx_K11 22 e.2.2.2) rx_ro wx_nb wx_K11 6000 rx_m22 e) = true := by decide +kernel
set_option maxRecDepth 100000 in
theorem wx_k91_11 : (wx_e91).all (fun e => wx_chk (wx_on wx_K11 91 e.2.2.2) rx_ro wx_nb wx_K11 6000 rx_m91 e) = true := by decide +kernel
set_option maxRecDepth 100000 in
theorem wx_k90_11 : (wx_e90).all (fun e => wx_chk (wx_on wx_K11 90 e.2.2.2) rx_ro wx_nb wx_K11 6000 rx_m90 e) = true := by decide +kernel
set_option maxRecDepth 100000 in
theorem wx_k66_11 : (wx_e66).all (fun e => wx_chk (wx_on wx_K11 66 e.2.2.2) rx_ro wx_nb wx_K11 6000 rx_m66 e) = true := by decide +kernel
set_option maxRecDepth 100000 in
theorem wx_k74_11 : (wx_e74).all (fun e => wx_chk (wx_on wx_K11 74 e.2.2.2) rx_ro wx_nb wx_K11 6000 rx_m74 e) = true := by decide +kernel
set_option maxRecDepth 100000 in
theorem wx_k62_11 : (wx_e62).all (fun e => wx_chk (wx_on wx_K11 62 e.2.2.2) rx_ro wx_nb wx_K11 6000 rx_m62 e) = true := by decide +kernel
set_option maxRecDepth 100000 in
theorem wx_k64_11 : (wx_e64).all (fun e => wx_chk (wx_on wx_K11 64 e.2.2.2) rx_ro wx_nb wx_K11 6000 rx_m64 e) = true := by decide +kernel
set_option maxRecDepth 100000 in
theorem wx_k122_11 : (wx_e122).all (fun e => wx_chk (wx_on wx_K11 122 e.2.2.2) rx_ro wx_nb wx_K11 6000 rx_m122 e) = true := by decide +kernel
set_option maxRecDepth 100000 in
theorem wx_k22_12 : (wx_e22).all (fun e => wx_chk (wx_on wx_K12 22 e.2.2.2) rx_ro wx_nb wx_K12 6000 rx_m22 e) = true := by decide +kernel
set_option maxRecDepth 100000 in
theorem wx_k91_12 : (wx_e91).all (fun e => wx_chk (wx_on wx_K12 91 e.2.2.2) rx_ro wx_nb wx_K12 6000 rx_m91 e) = true := by decide +kernel
set_option maxRecDepth 100000 in
theorem wx_k90_12 : (wx_e90).all (fun e => wx_chk (wx_on wx_K12 90 e.2.2.2) rx_ro wx_nb wx_K12 6000 rx_m90 e) = true := by decide +kernel
set_option maxRecDepth 100000 in
theorem wx_k66_12 : (wx_e66).all (fun e => wx_chk (wx_on wx_K12 66 e.2.2.2) rx_ro wx_nb wx_K12 6000 rx_m66 e) = true := by decide +kernel
set_option maxRecDepth 100000 in
theorem wx_k74_12 : (wx_e74).all (fun e => wx_chk (wx_on wx_K12 74 e.2.2.2) rx_ro wx_nb wx_K12 6000 rx_m74 e) = true := by decide +kernel
set_option maxRecDepth 100000 in
theorem wx_k62_12 : (wx_e62).all (fun e => wx_chk (wx_on wx_K12 62 e.2.2.2) rx_ro wx_nb wx_K12 6000 rx_m62 e) = true := by decide +kernel
set_option maxRecDepth 100000 in
theorem wx_k64_12 : (wx_e64).all (fun e => wx_chk (wx_on wx_K12 64 e.2.2.2) rx_ro wx_nb wx_K12 6000 rx_m64 e) = true := by decide +kernel
set_option maxRecDepth 100000 in
theorem wx_k122_12 : (wx_e122).all (fun e => wx_chk (wx_on wx_K12 122 e.2.2.2) rx_ro wx_nb wx_K12 6000 rx_m122 e) = true := by decide +kernel
set_option maxRecDepth 100000 in
theorem wx_k22_13 : (wx_e22).all (fun e => wx_chk (wx_on wx_K13 22 e.2.2.2) rx_ro wx_nb wx_K13 6000 rx_m22 e) = true := by decide +kernel
set_option maxRecDepth 100000 in
theorem wx_k91_13 : (wx_e91).all (fun e => wx_chk (wx_on wx_K13 91 e.2.2.2) rx_ro wx_nb wx_K13 6000 rx_m91 e) = true := by decide +kernel
set_option maxRecDepth 100000 in
theorem wx_k90_13 : (wx_e90).all (fun e => wx_chk (wx_on wx_K13 90 e.2.2.2) rx_ro wx_nb wx_K13 6000 rx_m90 e) = true := by decide +kernel
set_option maxRecDepth 100000 in
theorem wx_k66_13 : (wx_e66).all (fun e => wx_chk (wx_on wx_K13 66 e.2.2.2) rx_ro wx_nb wx_K13 6000 rx_m66 e) = true := by decide +kernel
set_option maxRecDepth 100000 in
theorem wx_k74_13 : (wx_e74).all (fun e => wx_chk (wx_on wx_K13 74 e.2.2.2) rx_ro wx_nb wx_K13 6000 rx_m74 e) = true := by decide +kernel
set_option maxRecDepth 100000 in
theorem wx_k62_13 : (wx_e62).all (fun e => wx_chk (wx_on wx_K13 62 e.2.2.2) rx_ro wx_nb wx_K13 6000 rx_m62 e) = true := by decide +kernel
set_option maxRecDepth 100000 in
theorem wx_k64_13 : (wx_e64).all (fun e => wx_chk (wx_on wx_K13 64 e.2.2.2) rx_ro wx_nb wx_K13 6000 rx_m64 e) = true := by decide +kernel
set_option maxRecDepth 100000 in
theorem wx_k122_13 : (wx_e122).all (fun e => wx_chk (wx_on wx_K13 122 e.2.2.2) rx_ro wx_nb wx_K13 6000 rx_m122 e) = true := by decide +kernel
