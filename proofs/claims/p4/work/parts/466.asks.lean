/-! THE HELPERS ask AND look -/
noncomputable def wx_q1 (n : Nat) (t : rx_H) : Bool := (wx_lm n).all fun q1 => wx_hT wx_oF wx_oF t rx_mL1 rx_m28 5 3 4 15 14 (wx_a2 q1 (0, 1)) (0, 2) || wx_hR (wx_oN t) t rx_mL1 1 (wx_a2 q1 (0, 1))
noncomputable def wx_q5 (n : Nat) (t : rx_H) : Bool := (wx_lm n).all fun q1 => wx_l01.all fun q2 => wx_hT wx_oF wx_oF t rx_mL5 rx_m118 5 3 4 15 22 (wx_a2 q1 q2) (0, 2) || wx_hR (wx_oN t) t rx_mL5 0 (wx_a2 q1 q2)
theorem wx_H1n {l : Launch} (hfl : l.flags = pinnedFlags ++ [noTraceFlag]) {n : Nat} (hn : n ≤ 40) {Kn : rx_H} (hF : wx_fill n wx_Kst = Kn) {fs0 : List rx_V} (h0 : Kn[0]? = some (.inl (0, fs0))) (hc : wx_q1 n Kn = true) : ∀ q1 ∈ wx_lm n, wx_HE l n n rx_mL1 [(0, 10, 13, 21)] (wx_a2 q1 (0, 1)) 1 := by
  intro q1 h1
  have h := List.all_eq_true.mp hc q1 h1
  have e : wx_X n = Kn := hF
  unfold wx_HE
  rw [e]
  rcases rx_or2 h with h | h
  · exact wx_HX_up (wx_HT1 (Φ := fun h => h) hfl wx_Ph_id h0 14 rfl rfl rfl h) (by decide)
  · exact wx_HRx (Φ := fun h => h) wx_Ph_id (wx_HO_N hn hF) rx_moL1 h
theorem wx_H5n {l : Launch} (hfl : l.flags = pinnedFlags ++ [noTraceFlag]) {n : Nat} (hn : n ≤ 40) {Kn : rx_H} (hF : wx_fill n wx_Kst = Kn) {fs0 : List rx_V} (h0 : Kn[0]? = some (.inl (0, fs0))) (hc : wx_q5 n Kn = true) : ∀ q1 ∈ wx_lm n, ∀ q2 ∈ wx_l01, wx_HE l n n rx_mL5 [(0, 10, 13, 21)] (wx_a2 q1 q2) 0 := by
  intro q1 h1 q2 h2
  have h := List.all_eq_true.mp (List.all_eq_true.mp hc q1 h1) q2 h2
  have e : wx_X n = Kn := hF
  unfold wx_HE
  rw [e]
  rcases rx_or2 h with h | h
  · exact wx_HT5 (Φ := fun h => h) hfl wx_Ph_id h0 22 rfl rfl rfl h
  · exact wx_HRx (Φ := fun h => h) wx_Ph_id (wx_HO_N hn hF) rx_moL5 h
set_option maxRecDepth 100000 in
theorem wx_q1_0 : wx_q1 0 wx_K0 = true := by decide +kernel
set_option maxRecDepth 100000 in
theorem wx_q5_0 : wx_q5 0 wx_K0 = true := by decide +kernel
set_option maxRecDepth 100000 in
theorem wx_q1_1 : wx_q1 1 wx_K1 = true := by decide +kernel
set_option maxRecDepth 100000 in
theorem wx_q5_1 : wx_q5 1 wx_K1 = true := by decide +kernel
set_option maxRecDepth 100000 in
theorem wx_q1_2 : wx_q1 2 wx_K2 = true := by decide +kernel
set_option maxRecDepth 100000 in
theorem wx_q5_2 : wx_q5 2 wx_K2 = true := by decide +kernel
set_option maxRecDepth 100000 in
theorem wx_q1_3 : wx_q1 3 wx_K3 = true := by decide +kernel
set_option maxRecDepth 100000 in
theorem wx_q5_3 : wx_q5 3 wx_K3 = true := by decide +kernel
set_option maxRecDepth 100000 in
theorem wx_q1_4 : wx_q1 4 wx_K4 = true := by decide +kernel
set_option maxRecDepth 100000 in
theorem wx_q5_4 : wx_q5 4 wx_K4 = true := by decide +kernel
set_option maxRecDepth 100000 in
theorem wx_q1_5 : wx_q1 5 wx_K5 = true := by decide +kernel
set_option maxRecDepth 100000 in
theorem wx_q5_5 : wx_q5 5 wx_K5 = true := by decide +kernel
set_option maxRecDepth 100000 in
theorem wx_q1_6 : wx_q1 6 wx_K6 = true := by decide +kernel
set_option maxRecDepth 100000 in
theorem wx_q5_6 : wx_q5 6 wx_K6 = true := by decide +kernel
set_option maxRecDepth 100000 in
theorem wx_q1_7 : wx_q1 7 wx_K7 = true := by decide +kernel
set_option maxRecDepth 100000 in
theorem wx_q5_7 : wx_q5 7 wx_K7 = true := by decide +kernel
set_option maxRecDepth 100000 in
theorem wx_q1_8 : wx_q1 8 wx_K8 = true := by decide +kernel
set_option maxRecDepth 100000 in
theorem wx_q5_8 : wx_q5 8 wx_K8 = true := by decide +kernel
set_option maxRecDepth 100000 in
theorem wx_q1_9 : wx_q1 9 wx_K9 = true := by decide +kernel
set_option maxRecDepth 100000 in
theorem wx_q5_9 : wx_q5 9 wx_K9 = true := by decide +kernel
set_option maxRecDepth 100000 in
theorem wx_q1_10 : wx_q1 10 wx_K10 = true := by decide +kernel
set_option maxRecDepth 100000 in
theorem wx_q5_10 : wx_q5 10 wx_K10 = true := by decide +kernel
set_option maxRecDepth 100000 in
theorem wx_q1_11 : wx_q1 11 wx_K11 = true := by decide +kernel
set_option maxRecDepth 100000 in
theorem wx_q5_11 : wx_q5 11 wx_K11 = true := by decide +kernel
set_option maxRecDepth 100000 in
theorem wx_q1_12 : wx_q1 12 wx_K12 = true := by decide +kernel
set_option maxRecDepth 100000 in
theorem wx_q5_12 : wx_q5 12 wx_K12 = true := by decide +kernel
set_option maxRecDepth 100000 in
theorem wx_q1_13 : wx_q1 13 wx_K13 = true := by decide +kernel
set_option maxRecDepth 100000 in
theorem wx_q5_13 : wx_q5 13 wx_K13 = true := by decide +kernel
set_option maxRecDepth 100000 in
theorem wx_q1_14 : wx_q1 14 wx_K14 = true := by decide +kernel
set_option maxRecDepth 100000 in
theorem wx_q5_14 : wx_q5 14 wx_K14 = true := by decide +kernel
set_option maxRecDepth 100000 in
theorem wx_q1_15 : wx_q1 15 wx_K15 = true := by decide +kernel
set_option maxRecDepth 100000 in
theorem wx_q5_15 : wx_q5 15 wx_K15 = true := by decide +kernel
set_option maxRecDepth 100000 in
theorem wx_q1_16 : wx_q1 16 wx_K16 = true := by decide +kernel
set_option maxRecDepth 100000 in
theorem wx_q5_16 : wx_q5 16 wx_K16 = true := by decide +kernel
set_option maxRecDepth 100000 in
theorem wx_q1_17 : wx_q1 17 wx_K17 = true := by decide +kernel
set_option maxRecDepth 100000 in
theorem wx_q5_17 : wx_q5 17 wx_K17 = true := by decide +kernel
set_option maxRecDepth 100000 in
theorem wx_q1_18 : wx_q1 18 wx_K18 = true := by decide +kernel
set_option maxRecDepth 100000 in
theorem wx_q5_18 : wx_q5 18 wx_K18 = true := by decide +kernel
set_option maxRecDepth 100000 in
theorem wx_q1_19 : wx_q1 19 wx_K19 = true := by decide +kernel
set_option maxRecDepth 100000 in
theorem wx_q5_19 : wx_q5 19 wx_K19 = true := by decide +kernel
set_option maxRecDepth 100000 in
theorem wx_q1_20 : wx_q1 20 wx_K20 = true := by decide +kernel
set_option maxRecDepth 100000 in
theorem wx_q5_20 : wx_q5 20 wx_K20 = true := by decide +kernel
set_option maxRecDepth 100000 in
theorem wx_q1_21 : wx_q1 21 wx_K21 = true := by decide +kernel
set_option maxRecDepth 100000 in
theorem wx_q5_21 : wx_q5 21 wx_K21 = true := by decide +kernel
set_option maxRecDepth 100000 in
theorem wx_q1_22 : wx_q1 22 wx_K22 = true := by decide +kernel
set_option maxRecDepth 100000 in
theorem wx_q5_22 : wx_q5 22 wx_K22 = true := by decide +kernel
set_option maxRecDepth 100000 in
theorem wx_q1_23 : wx_q1 23 wx_K23 = true := by decide +kernel
set_option maxRecDepth 100000 in
theorem wx_q5_23 : wx_q5 23 wx_K23 = true := by decide +kernel
set_option maxRecDepth 100000 in
theorem wx_q1_24 : wx_q1 24 wx_K24 = true := by decide +kernel
set_option maxRecDepth 100000 in
theorem wx_q5_24 : wx_q5 24 wx_K24 = true := by decide +kernel
set_option maxRecDepth 100000 in
theorem wx_q1_25 : wx_q1 25 wx_K25 = true := by decide +kernel
set_option maxRecDepth 100000 in
theorem wx_q5_25 : wx_q5 25 wx_K25 = true := by decide +kernel
set_option maxRecDepth 100000 in
theorem wx_q1_26 : wx_q1 26 wx_K26 = true := by decide +kernel
set_option maxRecDepth 100000 in
theorem wx_q5_26 : wx_q5 26 wx_K26 = true := by decide +kernel
set_option maxRecDepth 100000 in
theorem wx_q1_27 : wx_q1 27 wx_K27 = true := by decide +kernel
set_option maxRecDepth 100000 in
theorem wx_q5_27 : wx_q5 27 wx_K27 = true := by decide +kernel
set_option maxRecDepth 100000 in
theorem wx_q1_28 : wx_q1 28 wx_K28 = true := by decide +kernel
set_option maxRecDepth 100000 in
theorem wx_q5_28 : wx_q5 28 wx_K28 = true := by decide +kernel
set_option maxRecDepth 100000 in
theorem wx_q1_29 : wx_q1 29 wx_K29 = true := by decide +kernel
set_option maxRecDepth 100000 in
theorem wx_q5_29 : wx_q5 29 wx_K29 = true := by decide +kernel
set_option maxRecDepth 100000 in
theorem wx_q1_30 : wx_q1 30 wx_K30 = true := by decide +kernel
set_option maxRecDepth 100000 in
theorem wx_q5_30 : wx_q5 30 wx_K30 = true := by decide +kernel
set_option maxRecDepth 100000 in
theorem wx_q1_31 : wx_q1 31 wx_K31 = true := by decide +kernel
set_option maxRecDepth 100000 in
theorem wx_q5_31 : wx_q5 31 wx_K31 = true := by decide +kernel
set_option maxRecDepth 100000 in
theorem wx_q1_32 : wx_q1 32 wx_K32 = true := by decide +kernel
set_option maxRecDepth 100000 in
theorem wx_q5_32 : wx_q5 32 wx_K32 = true := by decide +kernel
set_option maxRecDepth 100000 in
theorem wx_q1_33 : wx_q1 33 wx_K33 = true := by decide +kernel
set_option maxRecDepth 100000 in
theorem wx_q5_33 : wx_q5 33 wx_K33 = true := by decide +kernel
set_option maxRecDepth 100000 in
theorem wx_q1_34 : wx_q1 34 wx_K34 = true := by decide +kernel
set_option maxRecDepth 100000 in
theorem wx_q5_34 : wx_q5 34 wx_K34 = true := by decide +kernel
set_option maxRecDepth 100000 in
theorem wx_q1_35 : wx_q1 35 wx_K35 = true := by decide +kernel
set_option maxRecDepth 100000 in
theorem wx_q5_35 : wx_q5 35 wx_K35 = true := by decide +kernel
set_option maxRecDepth 100000 in
theorem wx_q1_36 : wx_q1 36 wx_K36 = true := by decide +kernel
set_option maxRecDepth 100000 in
theorem wx_q5_36 : wx_q5 36 wx_K36 = true := by decide +kernel
set_option maxRecDepth 100000 in
theorem wx_q1_37 : wx_q1 37 wx_K37 = true := by decide +kernel
set_option maxRecDepth 100000 in
theorem wx_q5_37 : wx_q5 37 wx_K37 = true := by decide +kernel
set_option maxRecDepth 100000 in
theorem wx_q1_38 : wx_q1 38 wx_K38 = true := by decide +kernel
set_option maxRecDepth 100000 in
theorem wx_q5_38 : wx_q5 38 wx_K38 = true := by decide +kernel
set_option maxRecDepth 100000 in
theorem wx_q1_39 : wx_q1 39 wx_K39 = true := by decide +kernel
set_option maxRecDepth 100000 in
theorem wx_q5_39 : wx_q5 39 wx_K39 = true := by decide +kernel
set_option maxRecDepth 100000 in
theorem wx_q1_40 : wx_q1 40 wx_K40 = true := by decide +kernel
set_option maxRecDepth 100000 in
theorem wx_q5_40 : wx_q5 40 wx_K40 = true := by decide +kernel
theorem wx_H1 {l : Launch} (hfl : l.flags = pinnedFlags ++ [noTraceFlag]) {n : Nat} (hn : n ≤ 40) : ∀ q1 ∈ wx_lm n, wx_HE l n n rx_mL1 [(0, 10, 13, 21)] (wx_a2 q1 (0, 1)) 1 :=
  wx_41 (P := fun n => ∀ q1 ∈ wx_lm n, wx_HE l n n rx_mL1 [(0, 10, 13, 21)] (wx_a2 q1 (0, 1)) 1)
    (wx_H1n hfl (by decide) wx_KF0 (fs0 := _) rfl wx_q1_0)
    (wx_H1n hfl (by decide) wx_KF1 (fs0 := _) rfl wx_q1_1)
    (wx_H1n hfl (by decide) wx_KF2 (fs0 := _) rfl wx_q1_2)
    (wx_H1n hfl (by decide) wx_KF3 (fs0 := _) rfl wx_q1_3)
    (wx_H1n hfl (by decide) wx_KF4 (fs0 := _) rfl wx_q1_4)
    (wx_H1n hfl (by decide) wx_KF5 (fs0 := _) rfl wx_q1_5)
    (wx_H1n hfl (by decide) wx_KF6 (fs0 := _) rfl wx_q1_6)
    (wx_H1n hfl (by decide) wx_KF7 (fs0 := _) rfl wx_q1_7)
    (wx_H1n hfl (by decide) wx_KF8 (fs0 := _) rfl wx_q1_8)
    (wx_H1n hfl (by decide) wx_KF9 (fs0 := _) rfl wx_q1_9)
    (wx_H1n hfl (by decide) wx_KF10 (fs0 := _) rfl wx_q1_10)
    (wx_H1n hfl (by decide) wx_KF11 (fs0 := _) rfl wx_q1_11)
    (wx_H1n hfl (by decide) wx_KF12 (fs0 := _) rfl wx_q1_12)
    (wx_H1n hfl (by decide) wx_KF13 (fs0 := _) rfl wx_q1_13)
    (wx_H1n hfl (by decide) wx_KF14 (fs0 := _) rfl wx_q1_14)
    (wx_H1n hfl (by decide) wx_KF15 (fs0 := _) rfl wx_q1_15)
    (wx_H1n hfl (by decide) wx_KF16 (fs0 := _) rfl wx_q1_16)
    (wx_H1n hfl (by decide) wx_KF17 (fs0 := _) rfl wx_q1_17)
    (wx_H1n hfl (by decide) wx_KF18 (fs0 := _) rfl wx_q1_18)
    (wx_H1n hfl (by decide) wx_KF19 (fs0 := _) rfl wx_q1_19)
    (wx_H1n hfl (by decide) wx_KF20 (fs0 := _) rfl wx_q1_20)
    (wx_H1n hfl (by decide) wx_KF21 (fs0 := _) rfl wx_q1_21)
    (wx_H1n hfl (by decide) wx_KF22 (fs0 := _) rfl wx_q1_22)
    (wx_H1n hfl (by decide) wx_KF23 (fs0 := _) rfl wx_q1_23)
    (wx_H1n hfl (by decide) wx_KF24 (fs0 := _) rfl wx_q1_24)
    (wx_H1n hfl (by decide) wx_KF25 (fs0 := _) rfl wx_q1_25)
    (wx_H1n hfl (by decide) wx_KF26 (fs0 := _) rfl wx_q1_26)
    (wx_H1n hfl (by decide) wx_KF27 (fs0 := _) rfl wx_q1_27)
    (wx_H1n hfl (by decide) wx_KF28 (fs0 := _) rfl wx_q1_28)
    (wx_H1n hfl (by decide) wx_KF29 (fs0 := _) rfl wx_q1_29)
    (wx_H1n hfl (by decide) wx_KF30 (fs0 := _) rfl wx_q1_30)
    (wx_H1n hfl (by decide) wx_KF31 (fs0 := _) rfl wx_q1_31)
    (wx_H1n hfl (by decide) wx_KF32 (fs0 := _) rfl wx_q1_32)
    (wx_H1n hfl (by decide) wx_KF33 (fs0 := _) rfl wx_q1_33)
    (wx_H1n hfl (by decide) wx_KF34 (fs0 := _) rfl wx_q1_34)
    (wx_H1n hfl (by decide) wx_KF35 (fs0 := _) rfl wx_q1_35)
    (wx_H1n hfl (by decide) wx_KF36 (fs0 := _) rfl wx_q1_36)
    (wx_H1n hfl (by decide) wx_KF37 (fs0 := _) rfl wx_q1_37)
    (wx_H1n hfl (by decide) wx_KF38 (fs0 := _) rfl wx_q1_38)
    (wx_H1n hfl (by decide) wx_KF39 (fs0 := _) rfl wx_q1_39)
    (wx_H1n hfl (by decide) wx_KF40 (fs0 := _) rfl wx_q1_40) hn
theorem wx_H5 {l : Launch} (hfl : l.flags = pinnedFlags ++ [noTraceFlag]) {n : Nat} (hn : n ≤ 40) : ∀ q1 ∈ wx_lm n, ∀ q2 ∈ wx_l01, wx_HE l n n rx_mL5 [(0, 10, 13, 21)] (wx_a2 q1 q2) 0 :=
  wx_41 (P := fun n => ∀ q1 ∈ wx_lm n, ∀ q2 ∈ wx_l01, wx_HE l n n rx_mL5 [(0, 10, 13, 21)] (wx_a2 q1 q2) 0)
    (wx_H5n hfl (by decide) wx_KF0 (fs0 := _) rfl wx_q5_0)
    (wx_H5n hfl (by decide) wx_KF1 (fs0 := _) rfl wx_q5_1)
    (wx_H5n hfl (by decide) wx_KF2 (fs0 := _) rfl wx_q5_2)
    (wx_H5n hfl (by decide) wx_KF3 (fs0 := _) rfl wx_q5_3)
    (wx_H5n hfl (by decide) wx_KF4 (fs0 := _) rfl wx_q5_4)
    (wx_H5n hfl (by decide) wx_KF5 (fs0 := _) rfl wx_q5_5)
    (wx_H5n hfl (by decide) wx_KF6 (fs0 := _) rfl wx_q5_6)
    (wx_H5n hfl (by decide) wx_KF7 (fs0 := _) rfl wx_q5_7)
    (wx_H5n hfl (by decide) wx_KF8 (fs0 := _) rfl wx_q5_8)
    (wx_H5n hfl (by decide) wx_KF9 (fs0 := _) rfl wx_q5_9)
    (wx_H5n hfl (by decide) wx_KF10 (fs0 := _) rfl wx_q5_10)
    (wx_H5n hfl (by decide) wx_KF11 (fs0 := _) rfl wx_q5_11)
    (wx_H5n hfl (by decide) wx_KF12 (fs0 := _) rfl wx_q5_12)
    (wx_H5n hfl (by decide) wx_KF13 (fs0 := _) rfl wx_q5_13)
    (wx_H5n hfl (by decide) wx_KF14 (fs0 := _) rfl wx_q5_14)
    (wx_H5n hfl (by decide) wx_KF15 (fs0 := _) rfl wx_q5_15)
    (wx_H5n hfl (by decide) wx_KF16 (fs0 := _) rfl wx_q5_16)
    (wx_H5n hfl (by decide) wx_KF17 (fs0 := _) rfl wx_q5_17)
    (wx_H5n hfl (by decide) wx_KF18 (fs0 := _) rfl wx_q5_18)
    (wx_H5n hfl (by decide) wx_KF19 (fs0 := _) rfl wx_q5_19)
    (wx_H5n hfl (by decide) wx_KF20 (fs0 := _) rfl wx_q5_20)
    (wx_H5n hfl (by decide) wx_KF21 (fs0 := _) rfl wx_q5_21)
    (wx_H5n hfl (by decide) wx_KF22 (fs0 := _) rfl wx_q5_22)
    (wx_H5n hfl (by decide) wx_KF23 (fs0 := _) rfl wx_q5_23)
    (wx_H5n hfl (by decide) wx_KF24 (fs0 := _) rfl wx_q5_24)
    (wx_H5n hfl (by decide) wx_KF25 (fs0 := _) rfl wx_q5_25)
    (wx_H5n hfl (by decide) wx_KF26 (fs0 := _) rfl wx_q5_26)
    (wx_H5n hfl (by decide) wx_KF27 (fs0 := _) rfl wx_q5_27)
    (wx_H5n hfl (by decide) wx_KF28 (fs0 := _) rfl wx_q5_28)
    (wx_H5n hfl (by decide) wx_KF29 (fs0 := _) rfl wx_q5_29)
    (wx_H5n hfl (by decide) wx_KF30 (fs0 := _) rfl wx_q5_30)
    (wx_H5n hfl (by decide) wx_KF31 (fs0 := _) rfl wx_q5_31)
    (wx_H5n hfl (by decide) wx_KF32 (fs0 := _) rfl wx_q5_32)
    (wx_H5n hfl (by decide) wx_KF33 (fs0 := _) rfl wx_q5_33)
    (wx_H5n hfl (by decide) wx_KF34 (fs0 := _) rfl wx_q5_34)
    (wx_H5n hfl (by decide) wx_KF35 (fs0 := _) rfl wx_q5_35)
    (wx_H5n hfl (by decide) wx_KF36 (fs0 := _) rfl wx_q5_36)
    (wx_H5n hfl (by decide) wx_KF37 (fs0 := _) rfl wx_q5_37)
    (wx_H5n hfl (by decide) wx_KF38 (fs0 := _) rfl wx_q5_38)
    (wx_H5n hfl (by decide) wx_KF39 (fs0 := _) rfl wx_q5_39)
    (wx_H5n hfl (by decide) wx_KF40 (fs0 := _) rfl wx_q5_40) hn
