/-! THE HELPER consumer -/
noncomputable def wx_cons (K K2 : rx_H) : Bool := match rx_ex true rx_xM rx_no rx_ro 600 false rx_mL0.2.2.2.2.2.1 0 K (rx_ini (wx_a4 (0, 2) (0, 5) (1, 800) (10, 60)) rx_mL0.2.2.1) [] 0 0 with
  | some (v, h2, mc, ms) => wx_lob v (some (.inl (0, 2))) && (Nat.beq mc 1 && (Nat.beq ms 7 && rx_all2 rx_sbC h2 K2))
  | none => false
theorem rx_xl : rx_xM.length ≤ 1000 := by decide +kernel
theorem wx_cons_ok {l : Launch} {K K2 : rx_H} (hc : wx_cons K K2 = true) : wx_HX l K K2 rx_mL0 [(0, 14, 17, 13), (0, 14, 21, 15)] (wx_a4 (0, 2) (0, 5) (1, 800) (10, 60)) 0 := by
  intro D sb tt u hsb htt _ hu ad sz
  unfold wx_cons at hc
  split at hc
  · rename_i v h2 mc ms hr
    obtain ⟨g1, g2⟩ := rx_and2 hc
    obtain ⟨g2, g3⟩ := rx_and2 g2
    obtain ⟨g3, g4⟩ := rx_and2 g3
    have e2 := Nat.eq_of_beq_eq_true g2
    have e3 := Nat.eq_of_beq_eq_true g3
    subst e2
    subst e3
    exact wx_Met (rx_metW (rx_F_all l rx_xl (rx_HO_no (l := l)) rx_HH_no rx_all rx_hob 600) rx_moL0 [(0, 14, 17, 13), (0, 14, 21, 15)] D (wx_su sb tt u) ad sz (by decide) hr) (fun _ _ q => q) (fun a s o t _ hq => rx_Qc_up hsb (Nat.le_refl _) (rx_HS_of g4) (wx_lob_ok g1) a s o t hq) (fun _ q => q)
  · cases hc
set_option maxRecDepth 100000 in
theorem wx_cs0 : wx_cons wx_K0 wx_K1 = true := by decide +kernel
set_option maxRecDepth 100000 in
theorem wx_cs1 : wx_cons wx_K1 wx_K2 = true := by decide +kernel
set_option maxRecDepth 100000 in
theorem wx_cs2 : wx_cons wx_K2 wx_K3 = true := by decide +kernel
set_option maxRecDepth 100000 in
theorem wx_cs3 : wx_cons wx_K3 wx_K4 = true := by decide +kernel
set_option maxRecDepth 100000 in
theorem wx_cs4 : wx_cons wx_K4 wx_K5 = true := by decide +kernel
set_option maxRecDepth 100000 in
theorem wx_cs5 : wx_cons wx_K5 wx_K6 = true := by decide +kernel
set_option maxRecDepth 100000 in
theorem wx_cs6 : wx_cons wx_K6 wx_K7 = true := by decide +kernel
set_option maxRecDepth 100000 in
theorem wx_cs7 : wx_cons wx_K7 wx_K8 = true := by decide +kernel
set_option maxRecDepth 100000 in
theorem wx_cs8 : wx_cons wx_K8 wx_K9 = true := by decide +kernel
set_option maxRecDepth 100000 in
theorem wx_cs9 : wx_cons wx_K9 wx_K10 = true := by decide +kernel
set_option maxRecDepth 100000 in
theorem wx_cs10 : wx_cons wx_K10 wx_K11 = true := by decide +kernel
set_option maxRecDepth 100000 in
theorem wx_cs11 : wx_cons wx_K11 wx_K12 = true := by decide +kernel
set_option maxRecDepth 100000 in
theorem wx_cs12 : wx_cons wx_K12 wx_K13 = true := by decide +kernel
set_option maxRecDepth 100000 in
theorem wx_cs13 : wx_cons wx_K13 wx_K14 = true := by decide +kernel
set_option maxRecDepth 100000 in
theorem wx_cs14 : wx_cons wx_K14 wx_K15 = true := by decide +kernel
set_option maxRecDepth 100000 in
theorem wx_cs15 : wx_cons wx_K15 wx_K16 = true := by decide +kernel
set_option maxRecDepth 100000 in
theorem wx_cs16 : wx_cons wx_K16 wx_K17 = true := by decide +kernel
set_option maxRecDepth 100000 in
theorem wx_cs17 : wx_cons wx_K17 wx_K18 = true := by decide +kernel
set_option maxRecDepth 100000 in
theorem wx_cs18 : wx_cons wx_K18 wx_K19 = true := by decide +kernel
set_option maxRecDepth 100000 in
theorem wx_cs19 : wx_cons wx_K19 wx_K20 = true := by decide +kernel
set_option maxRecDepth 100000 in
theorem wx_cs20 : wx_cons wx_K20 wx_K21 = true := by decide +kernel
set_option maxRecDepth 100000 in
theorem wx_cs21 : wx_cons wx_K21 wx_K22 = true := by decide +kernel
set_option maxRecDepth 100000 in
theorem wx_cs22 : wx_cons wx_K22 wx_K23 = true := by decide +kernel
set_option maxRecDepth 100000 in
theorem wx_cs23 : wx_cons wx_K23 wx_K24 = true := by decide +kernel
set_option maxRecDepth 100000 in
theorem wx_cs24 : wx_cons wx_K24 wx_K25 = true := by decide +kernel
set_option maxRecDepth 100000 in
theorem wx_cs25 : wx_cons wx_K25 wx_K26 = true := by decide +kernel
set_option maxRecDepth 100000 in
theorem wx_cs26 : wx_cons wx_K26 wx_K27 = true := by decide +kernel
set_option maxRecDepth 100000 in
theorem wx_cs27 : wx_cons wx_K27 wx_K28 = true := by decide +kernel
set_option maxRecDepth 100000 in
theorem wx_cs28 : wx_cons wx_K28 wx_K29 = true := by decide +kernel
set_option maxRecDepth 100000 in
theorem wx_cs29 : wx_cons wx_K29 wx_K30 = true := by decide +kernel
set_option maxRecDepth 100000 in
theorem wx_cs30 : wx_cons wx_K30 wx_K31 = true := by decide +kernel
set_option maxRecDepth 100000 in
theorem wx_cs31 : wx_cons wx_K31 wx_K32 = true := by decide +kernel
set_option maxRecDepth 100000 in
theorem wx_cs32 : wx_cons wx_K32 wx_K33 = true := by decide +kernel
set_option maxRecDepth 100000 in
theorem wx_cs33 : wx_cons wx_K33 wx_K34 = true := by decide +kernel
set_option maxRecDepth 100000 in
theorem wx_cs34 : wx_cons wx_K34 wx_K35 = true := by decide +kernel
set_option maxRecDepth 100000 in
theorem wx_cs35 : wx_cons wx_K35 wx_K36 = true := by decide +kernel
set_option maxRecDepth 100000 in
theorem wx_cs36 : wx_cons wx_K36 wx_K37 = true := by decide +kernel
set_option maxRecDepth 100000 in
theorem wx_cs37 : wx_cons wx_K37 wx_K38 = true := by decide +kernel
set_option maxRecDepth 100000 in
theorem wx_cs38 : wx_cons wx_K38 wx_K39 = true := by decide +kernel
set_option maxRecDepth 100000 in
theorem wx_cs39 : wx_cons wx_K39 wx_K40 = true := by decide +kernel
set_option maxRecDepth 100000 in
theorem wx_cs40 : wx_hT wx_oF wx_oF wx_K40 rx_mL0 rx_m16 9 5 6 23 75 (wx_a4 (0, 2) (0, 5) (1, 800) (10, 60)) = true := by decide +kernel
noncomputable def wx_eq4 (q1 q2 q3 q4 : Int × Int) : Bool := rx_eP q1 (0, 2) && (rx_eP q2 (0, 5) && (rx_eP q3 (1, 800) && rx_eP q4 (10, 60)))
set_option maxRecDepth 100000 in
theorem wx_c0 : (wx_l02.all fun q1 => wx_l05.all fun q2 => wx_lkw.all fun q3 => wx_lfa.all fun q4 => wx_eq4 q1 q2 q3 q4 || (wx_hT wx_oF wx_oF wx_Kst rx_mL0 rx_m16 9 5 6 19 17 (wx_a4 q1 q2 q3 q4) || wx_hT wx_oF wx_oF wx_Kst rx_mL0 rx_m16 9 5 6 19 53 (wx_a4 q1 q2 q3 q4))) = true := by decide +kernel
def wx_nx (n : Nat) : Nat := bif Nat.beq n 40 then 40 else n + 1
theorem wx_csn {l : Launch} {n n2 : Nat} {K K2 : rx_H} (h1 : wx_fill n wx_Kst = K) (h2 : wx_fill n2 wx_Kst = K2) (hn : wx_nx n = n2) (hc : wx_cons K K2 = true) : wx_HE l n (wx_nx n) rx_mL0 [(0, 14, 17, 13), (0, 14, 21, 15)] (wx_a4 (0, 2) (0, 5) (1, 800) (10, 60)) 0 := by
  have e1 : wx_X n = K := h1
  have e2 : wx_X n2 = K2 := h2
  unfold wx_HE
  rw [hn, e1, e2]
  exact wx_cons_ok hc
theorem wx_cs40n {l : Launch} (hfl : l.flags = pinnedFlags ++ [noTraceFlag]) : wx_HE l 40 (wx_nx 40) rx_mL0 [(0, 14, 17, 13), (0, 14, 21, 15)] (wx_a4 (0, 2) (0, 5) (1, 800) (10, 60)) 0 := by
  have e1 : wx_X 40 = wx_K40 := wx_KF40
  unfold wx_HE
  rw [show wx_nx 40 = 40 from rfl, e1]
  exact wx_HT0b (Φ := fun h => h) hfl wx_Ph_id (fs0 := _) rfl 75 rfl rfl rfl wx_cs40
theorem wx_csa {l : Launch} (hfl : l.flags = pinnedFlags ++ [noTraceFlag]) {n : Nat} (hn : n ≤ 40) : wx_HE l n (wx_nx n) rx_mL0 [(0, 14, 17, 13), (0, 14, 21, 15)] (wx_a4 (0, 2) (0, 5) (1, 800) (10, 60)) 0 :=
  wx_41 (P := fun n => wx_HE l n (wx_nx n) rx_mL0 [(0, 14, 17, 13), (0, 14, 21, 15)] (wx_a4 (0, 2) (0, 5) (1, 800) (10, 60)) 0)
    (wx_csn wx_KF0 wx_KF1 rfl wx_cs0)
    (wx_csn wx_KF1 wx_KF2 rfl wx_cs1)
    (wx_csn wx_KF2 wx_KF3 rfl wx_cs2)
    (wx_csn wx_KF3 wx_KF4 rfl wx_cs3)
    (wx_csn wx_KF4 wx_KF5 rfl wx_cs4)
    (wx_csn wx_KF5 wx_KF6 rfl wx_cs5)
    (wx_csn wx_KF6 wx_KF7 rfl wx_cs6)
    (wx_csn wx_KF7 wx_KF8 rfl wx_cs7)
    (wx_csn wx_KF8 wx_KF9 rfl wx_cs8)
    (wx_csn wx_KF9 wx_KF10 rfl wx_cs9)
    (wx_csn wx_KF10 wx_KF11 rfl wx_cs10)
    (wx_csn wx_KF11 wx_KF12 rfl wx_cs11)
    (wx_csn wx_KF12 wx_KF13 rfl wx_cs12)
    (wx_csn wx_KF13 wx_KF14 rfl wx_cs13)
    (wx_csn wx_KF14 wx_KF15 rfl wx_cs14)
    (wx_csn wx_KF15 wx_KF16 rfl wx_cs15)
    (wx_csn wx_KF16 wx_KF17 rfl wx_cs16)
    (wx_csn wx_KF17 wx_KF18 rfl wx_cs17)
    (wx_csn wx_KF18 wx_KF19 rfl wx_cs18)
    (wx_csn wx_KF19 wx_KF20 rfl wx_cs19)
    (wx_csn wx_KF20 wx_KF21 rfl wx_cs20)
    (wx_csn wx_KF21 wx_KF22 rfl wx_cs21)
    (wx_csn wx_KF22 wx_KF23 rfl wx_cs22)
    (wx_csn wx_KF23 wx_KF24 rfl wx_cs23)
    (wx_csn wx_KF24 wx_KF25 rfl wx_cs24)
    (wx_csn wx_KF25 wx_KF26 rfl wx_cs25)
    (wx_csn wx_KF26 wx_KF27 rfl wx_cs26)
    (wx_csn wx_KF27 wx_KF28 rfl wx_cs27)
    (wx_csn wx_KF28 wx_KF29 rfl wx_cs28)
    (wx_csn wx_KF29 wx_KF30 rfl wx_cs29)
    (wx_csn wx_KF30 wx_KF31 rfl wx_cs30)
    (wx_csn wx_KF31 wx_KF32 rfl wx_cs31)
    (wx_csn wx_KF32 wx_KF33 rfl wx_cs32)
    (wx_csn wx_KF33 wx_KF34 rfl wx_cs33)
    (wx_csn wx_KF34 wx_KF35 rfl wx_cs34)
    (wx_csn wx_KF35 wx_KF36 rfl wx_cs35)
    (wx_csn wx_KF36 wx_KF37 rfl wx_cs36)
    (wx_csn wx_KF37 wx_KF38 rfl wx_cs37)
    (wx_csn wx_KF38 wx_KF39 rfl wx_cs38)
    (wx_csn wx_KF39 wx_KF40 rfl wx_cs39)
    (wx_cs40n hfl) hn
theorem wx_nx40 {n : Nat} (hn : n ≤ 40) : wx_nx n ≤ 40 := by
  unfold wx_nx
  cases h : Nat.beq n 40 with
  | true => exact Nat.le_refl _
  | false =>
    have : n ≠ 40 := fun e => by rw [e] at h; cases h
    show n + 1 ≤ 40
    omega
theorem wx_H0 {l : Launch} (hfl : l.flags = pinnedFlags ++ [noTraceFlag]) {n : Nat} (hn : n ≤ 40) : ∀ q1 ∈ wx_l02, ∀ q2 ∈ wx_l05, ∀ q3 ∈ wx_lkw, ∀ q4 ∈ wx_lfa, ∃ n', n' ≤ 40 ∧ wx_HE l n n' rx_mL0 [(0, 14, 17, 13), (0, 14, 21, 15)] (wx_a4 q1 q2 q3 q4) 0 := by
  intro q1 h1 q2 h2 q3 h3 q4 h4
  have h := List.all_eq_true.mp (List.all_eq_true.mp (List.all_eq_true.mp (List.all_eq_true.mp wx_c0 q1 h1) q2 h2) q3 h3) q4 h4
  rcases rx_or2 h with h | h
  · obtain ⟨g1, g2⟩ := rx_and2 h
    obtain ⟨g2, g3⟩ := rx_and2 g2
    obtain ⟨g3, g4⟩ := rx_and2 g3
    rw [rx_eP_ok g1, rx_eP_ok g2, rx_eP_ok g3, rx_eP_ok g4]
    exact ⟨wx_nx n, wx_nx40 hn, wx_csa hfl hn⟩
  · rcases rx_or2 h with h | h
    · exact ⟨n, hn, wx_HT0 hfl (wx_Ph_fill n) (t0 := wx_Kst) rfl 17 rfl rfl rfl h⟩
    · exact ⟨n, hn, wx_HT0 hfl (wx_Ph_fill n) (t0 := wx_Kst) rfl 53 rfl rfl rfl h⟩
