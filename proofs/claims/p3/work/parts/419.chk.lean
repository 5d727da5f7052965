/-! CHECKS -/
set_option maxRecDepth 100000 in
theorem wx_k22_28 : (wx_e22).all (fun e => wx_chk (wx_on wx_K28 22 e.2.2.2) rx_ro wx_nb wx_K28 6000 rx_m22 e) = true := by decide +kernel
set_option maxRecDepth 100000 in
theorem wx_k91_28 : (wx_e91).all (fun e => wx_chk (wx_on wx_K28 91 e.2.2.2) rx_ro wx_nb wx_K28 6000 rx_m91 e) = true := by decide +kernel
set_option maxRecDepth 100000 in
theorem wx_k90_28 : (wx_e90).all (fun e => wx_chk (wx_on wx_K28 90 e.2.2.2) rx_ro wx_nb wx_K28 6000 rx_m90 e) = true := by decide +kernel
set_option maxRecDepth 100000 in
theorem wx_k66_28 : (wx_e66).all (fun e => wx_chk (wx_on wx_K28 66 e.2.2.2) rx_ro wx_nb wx_K28 6000 rx_m66 e) = true := by decide +kernel
set_option maxRecDepth 100000 in
theorem wx_k74_28 : (wx_e74).all (fun e => wx_chk (wx_on wx_K28 74 e.2.2.2) rx_ro wx_nb wx_K28 6000 rx_m74 e) = true := by decide +kernel
set_option maxRecDepth 100000 in
theorem wx_k62_28 : (wx_e62).all (fun e => wx_chk (wx_on wx_K28 62 e.2.2.2) rx_ro wx_nb wx_K28 6000 rx_m62 e) = true := by decide +kernel
set_option maxRecDepth 100000 in
theorem wx_k64_28 : (wx_e64).all (fun e => wx_chk (wx_on wx_K28 64 e.2.2.2) rx_ro wx_nb wx_K28 6000 rx_m64 e) = true := by decide +kernel
set_option maxRecDepth 100000 in
theorem wx_k122_28 : (wx_e122).all (fun e => wx_chk (wx_on wx_K28 122 e.2.2.2) rx_ro wx_nb wx_K28 6000 rx_m122 e) = true := by decide +kernel
set_option maxRecDepth 100000 in
theorem wx_k22_29 : (wx_e22).all (fun e => wx_chk (wx_on wx_K29 22 e.2.2.2) rx_ro wx_nb wx_K29 6000 rx_m22 e) = true := by decide +kernel
set_option maxRecDepth 100000 in
theorem wx_k91_29 : (wx_e91).all (fun e => wx_chk (wx_on wx_K29 91 e.2.2.2) rx_ro wx_nb wx_K29 6000 rx_m91 e) = true := by decide +kernel
set_option maxRecDepth 100000 in
theorem wx_k90_29 : (wx_e90).all (fun e => wx_chk (wx_on wx_K29 90 e.2.2.2) rx_ro wx_nb wx_K29 6000 rx_m90 e) = true := by decide +kernel
set_option maxRecDepth 100000 in
theorem wx_k66_29 : (wx_e66).all (fun e => wx_chk (wx_on wx_K29 66 e.2.2.2) rx_ro wx_nb wx_K29 6000 rx_m66 e) = true := by decide +kernel
set_option maxRecDepth 100000 in
theorem wx_k74_29 : (wx_e74).all (fun e => wx_chk (wx_on wx_K29 74 e.2.2.2) rx_ro wx_nb wx_K29 6000 rx_m74 e) = true := by decide +kernel
set_option maxRecDepth 100000 in
theorem wx_k62_29 : (wx_e62).all (fun e => wx_chk (wx_on wx_K29 62 e.2.2.2) rx_ro wx_nb wx_K29 6000 rx_m62 e) = true := by decide +kernel
set_option maxRecDepth 100000 in
theorem wx_k64_29 : (wx_e64).all (fun e => wx_chk (wx_on wx_K29 64 e.2.2.2) rx_ro wx_nb wx_K29 6000 rx_m64 e) = true := by decide +kernel
set_option maxRecDepth 100000 in
theorem wx_k122_29 : (wx_e122).all (fun e => wx_chk (wx_on wx_K29 122 e.2.2.2) rx_ro wx_nb wx_K29 6000 rx_m122 e) = true := by decide +kernel
set_option maxRecDepth 100000 in
theorem wx_k22_30 : (wx_e22).all (fun e => wx_chk (wx_on wx_K30 22 e.2.2.2) rx_ro wx_nb wx_K30 6000 rx_m22 e) = true := by decide +kernel
set_option maxRecDepth 100000 in
theorem wx_k91_30 : (wx_e91).all (fun e => wx_chk (wx_on wx_K30 91 e.2.2.2) rx_ro wx_nb wx_K30 6000 rx_m91 e) = true := by decide +kernel
set_option maxRecDepth 100000 in
theorem wx_k90_30 : (wx_e90).all (fun e => wx_chk (wx_on wx_K30 90 e.2.2.2) rx_ro wx_nb wx_K30 6000 rx_m90 e) = true := by decide +kernel
set_option maxRecDepth 100000 in
theorem wx_k66_30 : (wx_e66).all (fun e => wx_chk (wx_on wx_K30 66 e.2.2.2) rx_ro wx_nb wx_K30 6000 rx_m66 e) = true := by decide +kernel
set_option maxRecDepth 100000 in
theorem wx_k74_30 : (wx_e74).all (fun e => wx_chk (wx_on wx_K30 74 e.2.2.2) rx_ro wx_nb wx_K30 6000 rx_m74 e) = true := by decide +kernel
set_option maxRecDepth 100000 in
theorem wx_k62_30 : (wx_e62).all (fun e => wx_chk (wx_on wx_K30 62 e.2.2.2) rx_ro wx_nb wx_K30 6000 rx_m62 e) = true := by decide +kernel
set_option maxRecDepth 100000 in
theorem wx_k64_30 : (wx_e64).all (fun e => wx_chk (wx_on wx_K30 64 e.2.2.2) rx_ro wx_nb wx_K30 6000 rx_m64 e) = true := by decide +kernel
set_option maxRecDepth 100000 in
theorem wx_k122_30 : (wx_e122).all (fun e => wx_chk (wx_on wx_K30 122 e.2.2.2) rx_ro wx_nb wx_K30 6000 rx_m122 e) = true := by decide +kernel
set_option maxRecDepth 100000 in
theorem wx_k22_31 : (wx_e22).all (fun e => wx_chk (wx_on wx_K31 22 e.2.2.2) rx_ro wx_nb wx_K31 6000 rx_m22 e) = true := by decide +kernel
set_option maxRecDepth 100000 in
theorem wx_k91_31 : (wx_e91).all (fun e => wx_chk (wx_on wx_K31 91 e.2.2.2) rx_ro wx_nb wx_K31 6000 rx_m91 e) = true := by decide +kernel
set_option maxRecDepth 100000 in
theorem wx_k90_31 : (wx_e90).all (fun e => wx_chk (wx_on wx_K31 90 e.2.2.2) rx_ro wx_nb wx_K31 6000 rx_m90 e) = true := by decide +kernel
set_option maxRecDepth 100000 in
theorem wx_k66_31 : (wx_e66).all (fun e => wx_chk (wx_on wx_K31 66 e.2.2.2) rx_ro wx_nb wx_K31 6000 rx_m66 e) = true := by decide +kernel
set_option maxRecDepth 100000 in
theorem wx_k74_31 : (wx_e74).all (fun e => wx_chk (wx_on wx_K31 74 e.2.2.2) rx_ro wx_nb wx_K31 6000 rx_m74 e) = true := by decide +kernel
set_option maxRecDepth 100000 in
theorem wx_k62_31 : (wx_e62).all (fun e => wx_chk (wx_on wx_K31 62 e.2.2.2) rx_ro wx_nb wx_K31 6000 rx_m62 e) = true := by decide +kernel
set_option maxRecDepth 100000 in
theorem wx_k64_31 : (wx_e64).all (fun e => wx_chk (wx_on wx_K31 64 e.2.2.2) rx_ro wx_nb wx_K31 6000 rx_m64 e) = true := by decide +kernel
set_option maxRecDepth 100000 in
theorem wx_k122_31 : (wx_e122).all (fun e => wx_chk (wx_on wx_K31 122 e.2.2.2) rx_ro wx_nb wx_K31 6000 rx_m122 e) = true := by decide +kernel
set_option maxRecDepth 100000 in
theorem wx_k22_32 : (wx_e22).all (fun e => wx_chk (wx_on wx_K32 22 e.2.2.2) rx_ro wx_nb wx_K32 6000 rx_m22 e) = true := by decide +kernel
set_option maxRecDepth 100000 in
theorem wx_k91_32 : (wx_e91).all (fun e => wx_chk (wx_on wx_K32 91 e.2.2.2) rx_ro wx_nb wx_K32 6000 rx_m91 e) = true := by decide +kernel
set_option maxRecDepth 100000 in
theorem wx_k90_32 : (wx_e90).all (fun e => wx_chk (wx_on wx_K32 90 e.2.2.2) rx_ro wx_nb wx_K32 6000 rx_m90 e) = true := by decide +kernel
set_option maxRecDepth 100000 in
theorem wx_k66_32 : (wx_e66).all (fun e => wx_chk (wx_on wx_K32 66 e.2.2.2) rx_ro wx_nb wx_K32 6000 rx_m66 e) = true := by decide +kernel
set_option maxRecDepth 100000 in
theorem wx_k74_32 : (wx_e74).all (fun e => wx_chk (wx_on wx_K32 74 e.2.2.2) rx_ro wx_nb wx_K32 6000 rx_m74 e) = true := by decide +kernel
set_option maxRecDepth 100000 in
theorem wx_k62_32 : (wx_e62).all (fun e => wx_chk (wx_on wx_K32 62 e.2.2.2) rx_ro wx_nb wx_K32 6000 rx_m62 e) = true := by decide +kernel
set_option maxRecDepth 100000 in
theorem wx_k64_32 : (wx_e64).all (fun e => wx_chk (wx_on wx_K32 64 e.2.2.2) rx_ro wx_nb wx_K32 6000 rx_m64 e) = true := by decide +kernel
set_option maxRecDepth 100000 in
theorem wx_k122_32 : (wx_e122).all (fun e => wx_chk (wx_on wx_K32 122 e.2.2.2) rx_ro wx_nb wx_K32 6000 rx_m122 e) = true := by decide +kernel
set_option maxRecDepth 100000 in
theorem wx_k22_33 : (wx_e22).all (fun e => wx_chk (wx_on wx_K33 22 e.2.2.2) rx_ro wx_nb wx_K33 6000 rx_m22 e) = true := by decide +kernel
set_option maxRecDepth 100000 in
theorem wx_k91_33 : (wx_e91).all (fun e => wx_chk (wx_on wx_K33 91 e.2.2.2) rx_ro wx_nb wx_K33 6000 rx_m91 e) = true := by decide +kernel
set_option maxRecDepth 100000 in
theorem wx_k90_33 : (wx_e90).all (fun e => wx_chk (wx_on wx_K33 90 e.2.2.2) rx_ro wx_nb wx_K33 6000 rx_m90 e) = true := by decide +kernel
set_option maxRecDepth 100000 in
theorem wx_k66_33 : (wx_e66).all (fun e => wx_chk (wx_on wx_K33 66 e.2.2.2) rx_ro wx_nb wx_K33 6000 rx_m66 e) = true := by decide +kernel
set_option maxRecDepth 100000 in
theorem wx_k74_33 : (wx_e74).all (fun e => wx_chk (wx_on wx_K33 74 e.2.2.2) rx_ro wx_nb wx_K33 6000 rx_m74 e) = true := by decide +kernel
set_option maxRecDepth 100000 in
theorem wx_k62_33 : (wx_e62).all (fun e => wx_chk (wx_on wx_K33 62 e.2.2.2) rx_ro wx_nb wx_K33 6000 rx_m62 e) = true := by decide +kernel
set_option maxRecDepth 100000 in
theorem wx_k64_33 : (wx_e64).all (fun e => wx_chk (wx_on wx_K33 64 e.2.2.2) rx_ro wx_nb wx_K33 6000 rx_m64 e) = true := by decide +kernel
set_option maxRecDepth 100000 in
theorem wx_k122_33 : (wx_e122).all (fun e => wx_chk (wx_on wx_K33 122 e.2.2.2) rx_ro wx_nb wx_K33 6000 rx_m122 e) = true := by decide +kernel
set_option maxRecDepth 100000 in
theorem wx_k22_34 : (wx_e22).all (fun e => wx_chk (wx_on wx_K34 22 e.2.2.2) rx_ro wx_nb wx_K34 6000 rx_m22 e) = true := by decide +kernel
set_option maxRecDepth 100000 in
theorem wx_k91_34 : (wx_e91).all (fun e => wx_chk (wx_on wx_K34 91 e.2.2.2) rx_ro wx_nb wx_K34 6000 rx_m91 e) = true := by decide +kernel
set_option maxRecDepth 100000 in
theorem wx_k90_34 : (wx_e90).all (fun e => wx_chk (wx_on wx_K34 90 e.2.2.2) rx_ro wx_nb wx_K34 6000 rx_m90 e) = true := by decide +kernel
set_option maxRecDepth 100000 in
theorem wx_k66_34 : (wx_e66).all (fun e => wx_chk (wx_on wx_K34 66 e.2.2.2) rx_ro wx_nb wx_K34 6000 rx_m66 e) = true := by decide +kernel
set_option maxRecDepth 100000 in
theorem wx_k74_34 : (wx_e74).all (fun e => wx_chk (wx_on wx_K34 74 e.2.2.2) rx_ro wx_nb wx_K34 6000 rx_m74 e) = true := by decide +kernel
set_option maxRecDepth 100000 in
theorem wx_k62_34 : (wx_e62).all (fun e => wx_chk (wx_on wx_K34 62 e.2.2.2) rx_ro wx_nb wx_K34 6000 rx_m62 e) = true := by decide +kernel
set_option maxRecDepth 100000 in
theorem wx_k64_34 : (wx_e64).all (fun e => wx_chk (wx_on wx_K34 64 e.2.2.2) rx_ro wx_nb wx_K34 6000 rx_m64 e) = true := by decide +kernel
set_option maxRecDepth 100000 in
theorem wx_k122_34 : (wx_e122).all (fun e => wx_chk (wx_on wx_K34 122 e.2.2.2) rx_ro wx_nb wx_K34 6000 rx_m122 e) = true := by decide +kernel
set_option maxRecDepth 100000 in
theorem wx_k22_35 : (wx_e22).all (fun e => wx_chk (wx_on wx_K35 22 e.2.2.2) rx_ro wx_nb wx_K35 6000 rx_m22 e) = true := by decide +kernel
set_option maxRecDepth 100000 in
theorem wx_k91_35 : (wx_e91).all (fun e => wx_chk (wx_on wx_K35 91 e.2.2.2) rx_ro wx_nb wx_K35 6000 rx_m91 e) = true := by decide +kernel
set_option maxRecDepth 100000 in
theorem wx_k90_35 : (wx_e90).all (fun e => wx_chk (wx_on wx_K35 90 e.2.2.2) rx_ro wx_nb wx_K35 6000 rx_m90 e) = true := by decide +kernel
set_option maxRecDepth 100000 in
theorem wx_k66_35 : (wx_e66).all (fun e => wx_chk (wx_on wx_K35 66 e.2.2.2) rx_ro wx_nb wx_K35 6000 rx_m66 e) = true := by decide +kernel
set_option maxRecDepth 100000 in
theorem wx_k74_35 : (wx_e74).all (fun e => wx_chk (wx_on wx_K35 74 e.2.2.2) rx_ro wx_nb wx_K35 6000 rx_m74 e) = true := by decide +kernel
set_option maxRecDepth 100000 in
theorem wx_k62_35 : (wx_e62).all (fun e => wx_chk (wx_on wx_K35 62 e.2.2.2) rx_ro wx_nb wx_K35 6000 rx_m62 e) = true := by decide +kernel
set_option maxRecDepth 100000 in
theorem wx_k64_35 : (wx_e64).all (fun e => wx_chk (wx_on wx_K35 64 e.2.2.2) rx_ro wx_nb wx_K35 6000 rx_m64 e) = true := by decide +kernel
set_option maxRecDepth 100000 in
theorem wx_k122_35 : (wx_e122).all (fun e => wx_chk (wx_on wx_K35 122 e.2.2.2) rx_ro wx_nb wx_K35 6000 rx_m122 e) = true := by decide +kernel
set_option maxRecDepth 100000 in
theorem wx_k22_36 : (wx_e22).all (fun e => wx_chk (wx_on wx_K36 22 e.2.2.2) rx_ro wx_nb wx_K36 6000 rx_m22 e) = true := by decide +kernel
set_option maxRecDepth 100000 in
theorem wx_k91_36 : (wx_e91).all (fun e => wx_chk (wx_on wx_K36 91 e.2.2.2) rx_ro wx_nb wx_K36 6000 rx_m91 e) = true := by decide +kernel
set_option maxRecDepth 100000 in
theorem wx_k90_36 : (wx_e90).all (fun e => wx_chk (wx_on wx_K36 90 e.2.2.2) rx_ro wx_nb wx_K36 6000 rx_m90 e) = true := by decide +kernel
set_option maxRecDepth 100000 in
theorem wx_k66_36 : (wx_e66).all (fun e => wx_chk (wx_on wx_K36 66 e.2.2.2) rx_ro wx_nb wx_K36 6000 rx_m66 e) = true := by decide +kernel
set_option maxRecDepth 100000 in
theorem wx_k74_36 : (wx_e74).all (fun e => wx_chk (wx_on wx_K36 74 e.2.2.2) rx_ro wx_nb wx_K36 6000 rx_m74 e) = true := by decide +kernel
set_option maxRecDepth 100000 in
theorem wx_k62_36 : (wx_e62).all (fun e => wx_chk (wx_on wx_K36 62 e.2.2.2) rx_ro wx_nb wx_K36 6000 rx_m62 e) = true := by decide +kernel
set_option maxRecDepth 100000 in
theorem wx_k64_36 : (wx_e64).all (fun e => wx_chk (wx_on wx_K36 64 e.2.2.2) rx_ro wx_nb wx_K36 6000 rx_m64 e) = true := by decide +kernel
set_option maxRecDepth 100000 in
theorem wx_k122_36 : (wx_e122).all (fun e => wx_chk (wx_on wx_K36 122 e.2.2.2) rx_ro wx_nb wx_K36 6000 rx_m122 e) = true := by decide +kernel
set_option maxRecDepth 100000 in
theorem wx_k22_37 : (wx_e22).all (fun e => wx_chk (wx_on wx_K37 22 e.2.2.2) rx_ro wx_nb wx_K37 6000 rx_m22 e) = true := by decide +kernel
set_option maxRecDepth 100000 in
theorem wx_k91_37 : (wx_e91).all (fun e => wx_chk (wx_on wx_K37 91 e.2.2.2) rx_ro wx_nb wx_K37 6000 rx_m91 e) = true := by decide +kernel
set_option maxRecDepth 100000 in
theorem wx_k90_37 : (wx_e90).all (fun e => wx_chk (wx_on wx_K37 90 e.2.2.2) rx_ro wx_nb wx_K37 6000 rx_m90 e) = true := by decide +kernel
set_option maxRecDepth 100000 in
theorem wx_k66_37 : (wx_e66).all (fun e => wx_chk (wx_on wx_K37 66 e.2.2.2) rx_ro wx_nb wx_K37 6000 rx_m66 e) = true := by decide +kernel
set_option maxRecDepth 100000 in
theorem wx_k74_37 : (wx_e74).all (fun e => wx_chk (wx_on wx_K37 74 e.2.2.2) rx_ro wx_nb wx_K37 6000 rx_m74 e) = true := by decide +kernel
set_option maxRecDepth 100000 in
theorem wx_k62_37 : (wx_e62).all (fun e => wx_chk (wx_on wx_K37 62 e.2.2.2) rx_ro wx_nb wx_K37 6000 rx_m62 e) = true := by decide +kernel
set_option maxRecDepth 100000 in
theorem wx_k64_37 : (wx_e64).all (fun e => wx_chk (wx_on wx_K37 64 e.2.2.2) rx_ro wx_nb wx_K37 6000 rx_m64 e) = true := by decide +kernel
set_option maxRecDepth 100000 in
theorem wx_k122_37 : (wx_e122).all (fun e => wx_chk (wx_on wx_K37 122 e.2.2.2) rx_ro wx_nb wx_K37 6000 rx_m122 e) = true := by decide +kernel
set_option maxRecDepth 100000 in
theorem wx_k22_38 : (wx_e22).all (fun e => wx_chk (wx_on wx_K38 22 e.2.2.2) rx_ro wx_nb wx_K38 6000 rx_m22 e) = true := by decide +kernel
set_option maxRecDepth 100000 in
theorem wx_k91_38 : (wx_e91).all (fun e => wx_chk (wx_on wx_K38 91 e.2.2.2) rx_ro wx_nb wx_K38 6000 rx_m91 e) = true := by decide +kernel
set_option maxRecDepth 100000 in
theorem wx_k90_38 : (wx_e90).all (fun e => wx_chk (wx_on wx_K38 90 e.2.2.2) rx_ro wx_nb wx_K38 6000 rx_m90 e) = true := by decide +kernel
set_option maxRecDepth 100000 in
theorem wx_k66_38 : (wx_e66).all (fun e => wx_chk (wx_on wx_K38 66 e.2.2.2) rx_ro wx_nb wx_K38 6000 rx_m66 e) = true := by decide +kernel
set_option maxRecDepth 100000 in
theorem wx_k74_38 : (wx_e74).all (fun e => wx_chk (wx_on wx_K38 74 e.2.2.2) rx_ro wx_nb wx_K38 6000 rx_m74 e) = true := by decide +kernel
set_option maxRecDepth 100000 in
theorem wx_k62_38 : (wx_e62).all (fun e => wx_chk (wx_on wx_K38 62 e.2.2.2) rx_ro wx_nb wx_K38 6000 rx_m62 e) = true := by decide +kernel
set_option maxRecDepth 100000 in
theorem wx_k64_38 : (wx_e64).all (fun e => wx_chk (wx_on wx_K38 64 e.2.2.2) rx_ro wx_nb wx_K38 6000 rx_m64 e) = true := by decide +kernel
set_option maxRecDepth 100000 in
theorem wx_k122_38 : (wx_e122).all (fun e => wx_chk (wx_on wx_K38 122 e.2.2.2) rx_ro wx_nb wx_K38 6000 rx_m122 e) = true := by decide +kernel
set_option maxRecDepth 100000 in
theorem wx_k22_39 : (wx_e22).all (fun e => wx_chk (wx_on wx_K39 22 e.2.2.2) rx_ro wx_nb wx_K39 6000 rx_m22 e) = true := by decide +kernel
set_option maxRecDepth 100000 in
theorem wx_k91_39 : (wx_e91).all (fun e => wx_chk (wx_on wx_K39 91 e.2.2.2) rx_ro wx_nb wx_K39 6000 rx_m91 e) = true := by decide +kernel
set_option maxRecDepth 100000 in
theorem wx_k90_39 : (wx_e90).all (fun e => wx_chk (wx_on wx_K39 90 e.2.2.2) rx_ro wx_nb wx_K39 6000 rx_m90 e) = true := by decide +kernel
set_option maxRecDepth 100000 in
theorem wx_k66_39 : (wx_e66).all (fun e => wx_chk (wx_on wx_K39 66 e.2.2.2) rx_ro wx_nb wx_K39 6000 rx_m66 e) = true := by decide +kernel
set_option maxRecDepth 100000 in
theorem wx_k74_39 : (wx_e74).all (fun e => wx_chk (wx_on wx_K39 74 e.2.2.2) rx_ro wx_nb wx_K39 6000 rx_m74 e) = true := by decide +kernel
set_option maxRecDepth 100000 in
theorem wx_k62_39 : (wx_e62).all (fun e => wx_chk (wx_on wx_K39 62 e.2.2.2) rx_ro wx_nb wx_K39 6000 rx_m62 e) = true := by decide +kernel
set_option maxRecDepth 100000 in
theorem wx_k64_39 : (wx_e64).all (fun e => wx_chk (wx_on wx_K39 64 e.2.2.2) rx_ro wx_nb wx_K39 6000 rx_m64 e) = true := by decide +kernel
set_option maxRecDepth 100000 in
theorem wx_k122_39 : (wx_e122).all (fun e => wx_chk (wx_on wx_K39 122 e.2.2.2) rx_ro wx_nb wx_K39 6000 rx_m122 e) = true := by decide +kernel
set_option maxRecDepth 100000 in
theorem wx_k22_40 : (wx_e22).all (fun e => wx_chk (wx_on wx_K40 22 e.2.2.2) rx_ro wx_nb wx_K40 6000 rx_m22 e) = true := by decide +kernel
set_option maxRecDepth 100000 in
theorem wx_k91_40 : (wx_e91).all (fun e => wx_chk (wx_on wx_K40 91 e.2.2.2) rx_ro wx_nb wx_K40 6000 rx_m91 e) = true := by decide +kernel
set_option maxRecDepth 100000 in
theorem wx_k90_40 : (wx_e90).all (fun e => wx_chk (wx_on wx_K40 90 e.2.2.2) rx_ro wx_nb wx_K40 6000 rx_m90 e) = true := by decide +kernel
set_option maxRecDepth 100000 in
theorem wx_k66_40 : (wx_e66).all (fun e => wx_chk (wx_on wx_K40 66 e.2.2.2) rx_ro wx_nb wx_K40 6000 rx_m66 e) = true := by decide +kernel
set_option maxRecDepth 100000 in
theorem wx_k74_40 : (wx_e74).all (fun e => wx_chk (wx_on wx_K40 74 e.2.2.2) rx_ro wx_nb wx_K40 6000 rx_m74 e) = true := by decide +kernel
set_option maxRecDepth 100000 in
theorem wx_k62_40 : (wx_e62).all (fun e => wx_chk (wx_on wx_K40 62 e.2.2.2) rx_ro wx_nb wx_K40 6000 rx_m62 e) = true := by decide +kernel
set_option maxRecDepth 100000 in
theorem wx_k64_40 : (wx_e64).all (fun e => wx_chk (wx_on wx_K40 64 e.2.2.2) rx_ro wx_nb wx_K40 6000 rx_m64 e) = true := by decide +kernel
set_option maxRecDepth 100000 in
theorem wx_k122_40 : (wx_e122).all (fun e => wx_chk (wx_on wx_K40 122 e.2.2.2) rx_ro wx_nb wx_K40 6000 rx_m122 e) = true := by decide +kernel
