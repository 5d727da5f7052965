/-! THE LAW's consumer, EXACTLY -/
def wy_lb : List ((Int × Int) × (Int × Int) × (Int × Int) × (Int × Int)) := [((-2147483648, -1), (-2147483648, 2147483647), (-2147483648, 2147483647), (-2147483648, 2147483647)), ((3, 2147483647), (-2147483648, 2147483647), (-2147483648, 2147483647), (-2147483648, 2147483647)), ((0, 2), (-2147483648, -1), (-2147483648, 2147483647), (-2147483648, 2147483647)), ((0, 2), (6, 2147483647), (-2147483648, 2147483647), (-2147483648, 2147483647)), ((0, 2), (0, 5), (-2147483648, 0), (-2147483648, 2147483647)), ((0, 2), (0, 5), (801, 2147483647), (-2147483648, 2147483647)), ((0, 2), (0, 5), (1, 800), (-2147483648, 9)), ((0, 2), (0, 5), (1, 800), (61, 2147483647))]
def wy_gb9 : (Int × Int) × (Int × Int) × (Int × Int) × (Int × Int) := ((0, 2), (0, 5), (1, 800), (10, 60))
def wy_wq (q : (Int × Int) × (Int × Int) × (Int × Int) × (Int × Int)) : List rx_V := wx_w4 q.1 q.2.1 q.2.2.1 q.2.2.2
def wy_aq (q : (Int × Int) × (Int × Int) × (Int × Int) × (Int × Int)) : List rx_V := wx_a4 q.1 q.2.1 q.2.2.1 q.2.2.2
def wy_out (n : Nat) : rx_C := .inr (2, [.inr (.inl ((n : Int), (n : Int)))])
def wy_k2 (n : Nat) (K : rx_H) : rx_H := (wx_cutc 28 26 (.inl ((n : Int), (n : Int))) K).set 56 (wy_out n)
def wy_k3 (n : Nat) (K : rx_H) : rx_H := wx_cutc 28 0 (.inl (0, 0)) (K.set 56 (wy_out n))
def wy_c11 (h : rx_H) : Bool := match h[(28 : Nat)]? with
  | some (.inl (i, _)) => Nat.beq i 11
  | _ => false
theorem wy_c11_ok {h : rx_H} (hc : wy_c11 h = true) : ∃ fs, h[28]? = some (.inl (11, fs)) := by
  unfold wy_c11 at hc
  split at hc
  · rename_i i fs he
    rw [Nat.eq_of_beq_eq_true hc] at he
    exact ⟨fs, he⟩
  · cases hc
noncomputable def wy_u (K2 : rx_H) (k bv : Int × Int) (k2 k3 : rx_H) (q : (Int × Int) × (Int × Int) × (Int × Int) × (Int × Int)) : Bool := wx_seg wx_oF wx_nb (.inr (.inr (.inr 400002)) :: wy_wq q) k2 0 3000 rx_tbL7 230 203 k2 (wx_Lw wx_ix) [.inl k] (wx_L5 k) (wx_r 28 :: wy_wq q).reverse && (wy_c11 k2 && (wx_xr rx_m177 k2 (wx_r 28 :: wy_wq q) 0 0 bv k3 && (wx_ctc 236 233 k3 (wx_L5 k) [.inl bv] k3 (wx_L6 k bv) [wx_r 28] && (wy_c11 k3 && (wx_xr rx_m124 k3 [wx_r 28] 0 0 k k3 && wx_ctc 795 239 k3 (wx_L6 k bv) [.inl k] K2 (wx_Lw wx_ix) [])))))
def wy_DQ (l : Launch) (n : Nat) (q : (Int × Int) × (Int × Int) × (Int × Int) × (Int × Int)) : Prop := ∃ (n' : Nat) (k bv : Int × Int) (X2 X3 X4 : rx_H), n' ≤ 40 ∧ wx_HX l (wx_X n) X2 rx_mL0 [(0, 14, 17, 13), (0, 14, 21, 15)] (wy_aq q) 0 k ∧ wx_SG l 2 (200 + 3) 230 (wy_wq q) X2 X2 (wx_Lw wx_ix) [.inl k] (wx_L5 k) (wx_r 28 :: wy_wq q).reverse ∧ (∃ fs, X2[28]? = some (.inl (11, fs))) ∧ wx_MC l X2 X3 (wy_wq q) bv ∧ wx_ctc 236 (230 + 3) X3 (wx_L5 k) [.inl bv] X3 (wx_L6 k bv) [wx_r 28] = true ∧ (∃ fs, X3[28]? = some (.inl (11, fs))) ∧ wx_MT l X3 k ∧ wx_ctc 795 (236 + 3) X3 (wx_L6 k bv) [.inl k] X4 (wx_Lw wx_ix) [] = true ∧ wx_X n' = X4
theorem wy_u_ok {l : Launch} {n n' : Nat} {k bv : Int × Int} {K2 k2 k3 : rx_H} {q : (Int × Int) × (Int × Int) × (Int × Int) × (Int × Int)} (hF : wx_fill n' wx_Kst = K2) (hn : n' ≤ 40) (hH : wx_HX l (wx_X n) k2 rx_mL0 [(0, 14, 17, 13), (0, 14, 21, 15)] (wy_aq q) 0 k) (hu : wy_u K2 k bv k2 k3 q = true) : wy_DQ l n q := by
  obtain ⟨h1, hu⟩ := rx_and2 hu
  obtain ⟨h2, hu⟩ := rx_and2 hu
  obtain ⟨h3, hu⟩ := rx_and2 hu
  obtain ⟨h4, hu⟩ := rx_and2 hu
  obtain ⟨h5, hu⟩ := rx_and2 hu
  obtain ⟨h6, h7⟩ := rx_and2 hu
  exact ⟨n', k, bv, k2, k3, K2, hn, hH, ⟨fun h => h, wx_oF, k2, k2, wx_Ph_id, wx_HO_F wx_Ph_id true, rfl, rfl, rx_HS_rf, h1⟩, wy_c11_ok h2, fun D sb tt u hsb ad sz => wx_xrM_ok (as := wx_r 28 :: wy_wq q) (rx_all 177 _ rx_x177) (show 5 ≤ 6 by decide) h3 D sb tt u hsb ad sz, h4, wy_c11_ok h5, fun D sb tt u hsb ad sz => wx_xrM_ok (as := [wx_r 28]) (rx_all 124 _ rx_x124) (show 1 ≤ 1 by decide) h6 D sb tt u hsb ad sz, h7, hF⟩
set_option maxRecDepth 100000 in
theorem wy_b8 : (wy_lb.all fun q => wx_hT wx_oF wx_oF wx_Kst rx_mL0 rx_m16 9 5 6 19 17 (wy_aq q) (1, 1) || wx_hT wx_oF wx_oF wx_Kst rx_mL0 rx_m16 9 5 6 19 53 (wy_aq q) (1, 1)) = true := by decide +kernel
set_option maxRecDepth 100000 in
theorem wy_b9 : ((wy_gb9 :: wy_lb).all fun q => wx_lawA 2 200 (wy_wq q) (wy_aq q)) = true := by decide +kernel
theorem wy_b8_ok {l : Launch} (hfl : l.flags = pinnedFlags ++ [noTraceFlag]) {n : Nat} {K : rx_H} (hF : wx_fill n wx_Kst = K) {q : (Int × Int) × (Int × Int) × (Int × Int) × (Int × Int)} (hq : q ∈ wy_lb) : wx_HX l (wx_X n) K rx_mL0 [(0, 14, 17, 13), (0, 14, 21, 15)] (wy_aq q) 0 (1, 1) := by
  rw [← hF]
  rcases rx_or2 (List.all_eq_true.mp wy_b8 q hq) with h | h
  · exact wx_HT0 hfl (wx_Ph_fill n) (t0 := wx_Kst) rfl 17 rfl rfl rfl h
  · exact wx_HT0 hfl (wx_Ph_fill n) (t0 := wx_Kst) rfl 53 rfl rfl rfl h
noncomputable def wy_ub (K : rx_H) : Bool := rx_fl (wx_cutc 28 0 (.inl (1, 1)) K) fun k3 => wy_lb.all fun q => wy_u K (1, 1) (0, 0) K k3 q
noncomputable def wy_ug (n : Nat) (K K2 : rx_H) : Bool := rx_fl (wy_k2 n K2) fun k2 => rx_fl (wy_k3 n K2) fun k3 => wx_xr rx_mL0 K (wy_aq wy_gb9) 1 7 (0, 0) k2 && wy_u K2 (0, 0) ((n : Int), (n : Int)) k2 k3 wy_gb9
noncomputable def wy_u40 (K : rx_H) : Bool := rx_fl (wx_cutc 28 0 (.inl (2, 2)) K) fun k3 => wx_hT wx_oF wx_oF K rx_mL0 rx_m16 9 5 6 23 75 (wy_aq wy_gb9) (2, 2) && wy_u K (2, 2) (0, 0) K k3 wy_gb9
theorem wy_dn {l : Launch} (hfl : l.flags = pinnedFlags ++ [noTraceFlag]) {n : Nat} {K K2 : rx_H} (hF : wx_fill n wx_Kst = K) (hF2 : wx_fill (n + 1) wx_Kst = K2) (hn : n < 40) (hb : wy_ub K = true) (hg : wy_ug n K K2 = true) : ∀ q ∈ wy_gb9 :: wy_lb, wy_DQ l n q := by
  intro q hq
  rcases List.mem_cons.mp hq with rfl | hq
  · unfold wy_ug at hg
    rw [rx_fl_eq, rx_fl_eq] at hg
    obtain ⟨g1, g2⟩ := rx_and2 hg
    exact wy_u_ok hF2 (by omega) (by rw [show wx_X n = K from hF]; exact wx_xrH_ok rx_moL0 (by decide) g1) g2
  · unfold wy_ub at hb
    rw [rx_fl_eq] at hb
    exact wy_u_ok hF (by omega) (wy_b8_ok hfl hF hq) (List.all_eq_true.mp hb q hq)
theorem wy_d40 {l : Launch} (hfl : l.flags = pinnedFlags ++ [noTraceFlag]) (hb : wy_ub wx_K40 = true) (hg : wy_u40 wx_K40 = true) : ∀ q ∈ wy_gb9 :: wy_lb, wy_DQ l 40 q := by
  intro q hq
  rcases List.mem_cons.mp hq with rfl | hq
  · unfold wy_u40 at hg
    rw [rx_fl_eq] at hg
    obtain ⟨g1, g2⟩ := rx_and2 hg
    exact wy_u_ok wx_KF40 (by decide) (by rw [show wx_X 40 = wx_K40 from wx_KF40]; exact wx_HT0b (Φ := fun h => h) hfl wx_Ph_id (fs0 := _) rfl 75 rfl rfl rfl g1) g2
  · unfold wy_ub at hb
    rw [rx_fl_eq] at hb
    exact wy_u_ok wx_KF40 (by decide) (wy_b8_ok hfl wx_KF40 hq) (List.all_eq_true.mp hb q hq)
set_option maxRecDepth 100000 in
theorem wy_ub0 : wy_ub wx_K0 = true := by decide +kernel
set_option maxRecDepth 100000 in
theorem wy_ub1 : wy_ub wx_K1 = true := by decide +kernel
set_option maxRecDepth 100000 in
theorem wy_ub2 : wy_ub wx_K2 = true := by decide +kernel
set_option maxRecDepth 100000 in
theorem wy_ub3 : wy_ub wx_K3 = true := by decide +kernel
set_option maxRecDepth 100000 in
theorem wy_ub4 : wy_ub wx_K4 = true := by decide +kernel
set_option maxRecDepth 100000 in
theorem wy_ub5 : wy_ub wx_K5 = true := by decide +kernel
set_option maxRecDepth 100000 in
theorem wy_ub6 : wy_ub wx_K6 = true := by decide +kernel
set_option maxRecDepth 100000 in
theorem wy_ub7 : wy_ub wx_K7 = true := by decide +kernel
set_option maxRecDepth 100000 in
theorem wy_ub8 : wy_ub wx_K8 = true := by decide +kernel
set_option maxRecDepth 100000 in
theorem wy_ub9 : wy_ub wx_K9 = true := by decide +kernel
set_option maxRecDepth 100000 in
theorem wy_ub10 : wy_ub wx_K10 = true := by decide +kernel
set_option maxRecDepth 100000 in
theorem wy_ub11 : wy_ub wx_K11 = true := by decide +kernel
set_option maxRecDepth 100000 in
theorem wy_ub12 : wy_ub wx_K12 = true := by decide +kernel
set_option maxRecDepth 100000 in
theorem wy_ub13 : wy_ub wx_K13 = true := by decide +kernel
set_option maxRecDepth 100000 in
theorem wy_ub14 : wy_ub wx_K14 = true := by decide +kernel
set_option maxRecDepth 100000 in
theorem wy_ub15 : wy_ub wx_K15 = true := by decide +kernel
set_option maxRecDepth 100000 in
theorem wy_ub16 : wy_ub wx_K16 = true := by decide +kernel
set_option maxRecDepth 100000 in
theorem wy_ub17 : wy_ub wx_K17 = true := by decide +kernel
set_option maxRecDepth 100000 in
theorem wy_ub18 : wy_ub wx_K18 = true := by decide +kernel
set_option maxRecDepth 100000 in
theorem wy_ub19 : wy_ub wx_K19 = true := by decide +kernel
set_option maxRecDepth 100000 in
theorem wy_ub20 : wy_ub wx_K20 = true := by decide +kernel
set_option maxRecDepth 100000 in
theorem wy_ub21 : wy_ub wx_K21 = true := by decide +kernel
set_option maxRecDepth 100000 in
theorem wy_ub22 : wy_ub wx_K22 = true := by decide +kernel
set_option maxRecDepth 100000 in
theorem wy_ub23 : wy_ub wx_K23 = true := by decide +kernel
set_option maxRecDepth 100000 in
theorem wy_ub24 : wy_ub wx_K24 = true := by decide +kernel
set_option maxRecDepth 100000 in
theorem wy_ub25 : wy_ub wx_K25 = true := by decide +kernel
set_option maxRecDepth 100000 in
theorem wy_ub26 : wy_ub wx_K26 = true := by decide +kernel
set_option maxRecDepth 100000 in
theorem wy_ub27 : wy_ub wx_K27 = true := by decide +kernel
set_option maxRecDepth 100000 in
theorem wy_ub28 : wy_ub wx_K28 = true := by decide +kernel
set_option maxRecDepth 100000 in
theorem wy_ub29 : wy_ub wx_K29 = true := by decide +kernel
set_option maxRecDepth 100000 in
theorem wy_ub30 : wy_ub wx_K30 = true := by decide +kernel
set_option maxRecDepth 100000 in
theorem wy_ub31 : wy_ub wx_K31 = true := by decide +kernel
set_option maxRecDepth 100000 in
theorem wy_ub32 : wy_ub wx_K32 = true := by decide +kernel
set_option maxRecDepth 100000 in
theorem wy_ub33 : wy_ub wx_K33 = true := by decide +kernel
set_option maxRecDepth 100000 in
theorem wy_ub34 : wy_ub wx_K34 = true := by decide +kernel
set_option maxRecDepth 100000 in
theorem wy_ub35 : wy_ub wx_K35 = true := by decide +kernel
set_option maxRecDepth 100000 in
theorem wy_ub36 : wy_ub wx_K36 = true := by decide +kernel
set_option maxRecDepth 100000 in
theorem wy_ub37 : wy_ub wx_K37 = true := by decide +kernel
set_option maxRecDepth 100000 in
theorem wy_ub38 : wy_ub wx_K38 = true := by decide +kernel
set_option maxRecDepth 100000 in
theorem wy_ub39 : wy_ub wx_K39 = true := by decide +kernel
set_option maxRecDepth 100000 in
theorem wy_ub40 : wy_ub wx_K40 = true := by decide +kernel
set_option maxRecDepth 100000 in
theorem wy_ug0 : wy_ug 0 wx_K0 wx_K1 = true := by decide +kernel
set_option maxRecDepth 100000 in
theorem wy_ug1 : wy_ug 1 wx_K1 wx_K2 = true := by decide +kernel
set_option maxRecDepth 100000 in
theorem wy_ug2 : wy_ug 2 wx_K2 wx_K3 = true := by decide +kernel
set_option maxRecDepth 100000 in
theorem wy_ug3 : wy_ug 3 wx_K3 wx_K4 = true := by decide +kernel
set_option maxRecDepth 100000 in
theorem wy_ug4 : wy_ug 4 wx_K4 wx_K5 = true := by decide +kernel
set_option maxRecDepth 100000 in
theorem wy_ug5 : wy_ug 5 wx_K5 wx_K6 = true := by decide +kernel
set_option maxRecDepth 100000 in
theorem wy_ug6 : wy_ug 6 wx_K6 wx_K7 = true := by decide +kernel
set_option maxRecDepth 100000 in
theorem wy_ug7 : wy_ug 7 wx_K7 wx_K8 = true := by decide +kernel
set_option maxRecDepth 100000 in
theorem wy_ug8 : wy_ug 8 wx_K8 wx_K9 = true := by decide +kernel
set_option maxRecDepth 100000 in
theorem wy_ug9 : wy_ug 9 wx_K9 wx_K10 = true := by decide +kernel
set_option maxRecDepth 100000 in
theorem wy_ug10 : wy_ug 10 wx_K10 wx_K11 = true := by decide +kernel
set_option maxRecDepth 100000 in
theorem wy_ug11 : wy_ug 11 wx_K11 wx_K12 = true := by decide +kernel
set_option maxRecDepth 100000 in
theorem wy_ug12 : wy_ug 12 wx_K12 wx_K13 = true := by decide +kernel
set_option maxRecDepth 100000 in
theorem wy_ug13 : wy_ug 13 wx_K13 wx_K14 = true := by decide +kernel
set_option maxRecDepth 100000 in
theorem wy_ug14 : wy_ug 14 wx_K14 wx_K15 = true := by decide +kernel
set_option maxRecDepth 100000 in
theorem wy_ug15 : wy_ug 15 wx_K15 wx_K16 = true := by decide +kernel
set_option maxRecDepth 100000 in
theorem wy_ug16 : wy_ug 16 wx_K16 wx_K17 = true := by decide +kernel
set_option maxRecDepth 100000 in
theorem wy_ug17 : wy_ug 17 wx_K17 wx_K18 = true := by decide +kernel
set_option maxRecDepth 100000 in
theorem wy_ug18 : wy_ug 18 wx_K18 wx_K19 = true := by decide +kernel
set_option maxRecDepth 100000 in
theorem wy_ug19 : wy_ug 19 wx_K19 wx_K20 = true := by decide +kernel
set_option maxRecDepth 100000 in
theorem wy_ug20 : wy_ug 20 wx_K20 wx_K21 = true := by decide +kernel
set_option maxRecDepth 100000 in
theorem wy_ug21 : wy_ug 21 wx_K21 wx_K22 = true := by decide +kernel
set_option maxRecDepth 100000 in
theorem wy_ug22 : wy_ug 22 wx_K22 wx_K23 = true := by decide +kernel
set_option maxRecDepth 100000 in
theorem wy_ug23 : wy_ug 23 wx_K23 wx_K24 = true := by decide +kernel
set_option maxRecDepth 100000 in
theorem wy_ug24 : wy_ug 24 wx_K24 wx_K25 = true := by decide +kernel
set_option maxRecDepth 100000 in
theorem wy_ug25 : wy_ug 25 wx_K25 wx_K26 = true := by decide +kernel
set_option maxRecDepth 100000 in
theorem wy_ug26 : wy_ug 26 wx_K26 wx_K27 = true := by decide +kernel
set_option maxRecDepth 100000 in
theorem wy_ug27 : wy_ug 27 wx_K27 wx_K28 = true := by decide +kernel
set_option maxRecDepth 100000 in
theorem wy_ug28 : wy_ug 28 wx_K28 wx_K29 = true := by decide +kernel
set_option maxRecDepth 100000 in
theorem wy_ug29 : wy_ug 29 wx_K29 wx_K30 = true := by decide +kernel
set_option maxRecDepth 100000 in
theorem wy_ug30 : wy_ug 30 wx_K30 wx_K31 = true := by decide +kernel
set_option maxRecDepth 100000 in
theorem wy_ug31 : wy_ug 31 wx_K31 wx_K32 = true := by decide +kernel
set_option maxRecDepth 100000 in
theorem wy_ug32 : wy_ug 32 wx_K32 wx_K33 = true := by decide +kernel
set_option maxRecDepth 100000 in
theorem wy_ug33 : wy_ug 33 wx_K33 wx_K34 = true := by decide +kernel
set_option maxRecDepth 100000 in
theorem wy_ug34 : wy_ug 34 wx_K34 wx_K35 = true := by decide +kernel
set_option maxRecDepth 100000 in
theorem wy_ug35 : wy_ug 35 wx_K35 wx_K36 = true := by decide +kernel
set_option maxRecDepth 100000 in
theorem wy_ug36 : wy_ug 36 wx_K36 wx_K37 = true := by decide +kernel
set_option maxRecDepth 100000 in
theorem wy_ug37 : wy_ug 37 wx_K37 wx_K38 = true := by decide +kernel
set_option maxRecDepth 100000 in
theorem wy_ug38 : wy_ug 38 wx_K38 wx_K39 = true := by decide +kernel
set_option maxRecDepth 100000 in
theorem wy_ug39 : wy_ug 39 wx_K39 wx_K40 = true := by decide +kernel
set_option maxRecDepth 100000 in
theorem wy_ug40 : wy_u40 wx_K40 = true := by decide +kernel
theorem wy_da {l : Launch} (hfl : l.flags = pinnedFlags ++ [noTraceFlag]) {n : Nat} (hn : n ≤ 40) : ∀ q ∈ wy_gb9 :: wy_lb, wy_DQ l n q :=
  wx_41 (P := fun n => ∀ q ∈ wy_gb9 :: wy_lb, wy_DQ l n q)
    (wy_dn hfl wx_KF0 wx_KF1 (by decide) wy_ub0 wy_ug0)
    (wy_dn hfl wx_KF1 wx_KF2 (by decide) wy_ub1 wy_ug1)
    (wy_dn hfl wx_KF2 wx_KF3 (by decide) wy_ub2 wy_ug2)
    (wy_dn hfl wx_KF3 wx_KF4 (by decide) wy_ub3 wy_ug3)
    (wy_dn hfl wx_KF4 wx_KF5 (by decide) wy_ub4 wy_ug4)
    (wy_dn hfl wx_KF5 wx_KF6 (by decide) wy_ub5 wy_ug5)
    (wy_dn hfl wx_KF6 wx_KF7 (by decide) wy_ub6 wy_ug6)
    (wy_dn hfl wx_KF7 wx_KF8 (by decide) wy_ub7 wy_ug7)
    (wy_dn hfl wx_KF8 wx_KF9 (by decide) wy_ub8 wy_ug8)
    (wy_dn hfl wx_KF9 wx_KF10 (by decide) wy_ub9 wy_ug9)
    (wy_dn hfl wx_KF10 wx_KF11 (by decide) wy_ub10 wy_ug10)
    (wy_dn hfl wx_KF11 wx_KF12 (by decide) wy_ub11 wy_ug11)
    (wy_dn hfl wx_KF12 wx_KF13 (by decide) wy_ub12 wy_ug12)
    (wy_dn hfl wx_KF13 wx_KF14 (by decide) wy_ub13 wy_ug13)
    (wy_dn hfl wx_KF14 wx_KF15 (by decide) wy_ub14 wy_ug14)
    (wy_dn hfl wx_KF15 wx_KF16 (by decide) wy_ub15 wy_ug15)
    (wy_dn hfl wx_KF16 wx_KF17 (by decide) wy_ub16 wy_ug16)
    (wy_dn hfl wx_KF17 wx_KF18 (by decide) wy_ub17 wy_ug17)
    (wy_dn hfl wx_KF18 wx_KF19 (by decide) wy_ub18 wy_ug18)
    (wy_dn hfl wx_KF19 wx_KF20 (by decide) wy_ub19 wy_ug19)
    (wy_dn hfl wx_KF20 wx_KF21 (by decide) wy_ub20 wy_ug20)
    (wy_dn hfl wx_KF21 wx_KF22 (by decide) wy_ub21 wy_ug21)
    (wy_dn hfl wx_KF22 wx_KF23 (by decide) wy_ub22 wy_ug22)
    (wy_dn hfl wx_KF23 wx_KF24 (by decide) wy_ub23 wy_ug23)
    (wy_dn hfl wx_KF24 wx_KF25 (by decide) wy_ub24 wy_ug24)
    (wy_dn hfl wx_KF25 wx_KF26 (by decide) wy_ub25 wy_ug25)
    (wy_dn hfl wx_KF26 wx_KF27 (by decide) wy_ub26 wy_ug26)
    (wy_dn hfl wx_KF27 wx_KF28 (by decide) wy_ub27 wy_ug27)
    (wy_dn hfl wx_KF28 wx_KF29 (by decide) wy_ub28 wy_ug28)
    (wy_dn hfl wx_KF29 wx_KF30 (by decide) wy_ub29 wy_ug29)
    (wy_dn hfl wx_KF30 wx_KF31 (by decide) wy_ub30 wy_ug30)
    (wy_dn hfl wx_KF31 wx_KF32 (by decide) wy_ub31 wy_ug31)
    (wy_dn hfl wx_KF32 wx_KF33 (by decide) wy_ub32 wy_ug32)
    (wy_dn hfl wx_KF33 wx_KF34 (by decide) wy_ub33 wy_ug33)
    (wy_dn hfl wx_KF34 wx_KF35 (by decide) wy_ub34 wy_ug34)
    (wy_dn hfl wx_KF35 wx_KF36 (by decide) wy_ub35 wy_ug35)
    (wy_dn hfl wx_KF36 wx_KF37 (by decide) wy_ub36 wy_ug36)
    (wy_dn hfl wx_KF37 wx_KF38 (by decide) wy_ub37 wy_ug37)
    (wy_dn hfl wx_KF38 wx_KF39 (by decide) wy_ub38 wy_ug38)
    (wy_dn hfl wx_KF39 wx_KF40 (by decide) wy_ub39 wy_ug39)
    (wy_d40 hfl wy_ub40 wy_ug40) hn
theorem wy_c9 (xs : Nat → Int32) (t : Nat) : ∃ q ∈ wy_gb9 :: wy_lb, wx_fitw (wy_wq q) (t + 1) xs := by
  have key : ∀ q : (Int × Int) × (Int × Int) × (Int × Int) × (Int × Int), q ∈ wy_gb9 :: wy_lb → rx_has q.1 (xs (t + 1)).toInt → rx_has q.2.1 (xs (t + 2)).toInt → rx_has q.2.2.1 (xs (t + 3)).toInt → rx_has q.2.2.2 (xs (t + 4)).toInt → ∃ q ∈ wy_gb9 :: wy_lb, wx_fitw (wy_wq q) (t + 1) xs := fun q hq h1 h2 h3 h4 => ⟨q, hq, wx_fit4 h1 h2 h3 h4⟩
  have r1 := rx_r32 (xs (t + 1))
  have r2 := rx_r32 (xs (t + 2))
  have r3 := rx_r32 (xs (t + 3))
  have r4 := rx_r32 (xs (t + 4))
  by_cases c0a : (xs (t + 1)).toInt < 0
  · exact key _ (List.mem_of_getElem? (i := 1) rfl) ⟨r1.1, by show (xs (t + 1)).toInt ≤ -1; omega⟩ r2 r3 r4
  by_cases c0b : 2 < (xs (t + 1)).toInt
  · exact key _ (List.mem_of_getElem? (i := 2) rfl) ⟨by show 3 ≤ (xs (t + 1)).toInt; omega, r1.2⟩ r2 r3 r4
  have g0a : (0 : Int) ≤ (xs (t + 1)).toInt := by omega
  have g0b : (xs (t + 1)).toInt ≤ (2 : Int) := by omega
  by_cases c1a : (xs (t + 2)).toInt < 0
  · exact key _ (List.mem_of_getElem? (i := 3) rfl) ⟨g0a, g0b⟩ ⟨r2.1, by show (xs (t + 2)).toInt ≤ -1; omega⟩ r3 r4
  by_cases c1b : 5 < (xs (t + 2)).toInt
  · exact key _ (List.mem_of_getElem? (i := 4) rfl) ⟨g0a, g0b⟩ ⟨by show 6 ≤ (xs (t + 2)).toInt; omega, r2.2⟩ r3 r4
  have g1a : (0 : Int) ≤ (xs (t + 2)).toInt := by omega
  have g1b : (xs (t + 2)).toInt ≤ (5 : Int) := by omega
  by_cases c2a : (xs (t + 3)).toInt < 1
  · exact key _ (List.mem_of_getElem? (i := 5) rfl) ⟨g0a, g0b⟩ ⟨g1a, g1b⟩ ⟨r3.1, by show (xs (t + 3)).toInt ≤ 0; omega⟩ r4
  by_cases c2b : 800 < (xs (t + 3)).toInt
  · exact key _ (List.mem_of_getElem? (i := 6) rfl) ⟨g0a, g0b⟩ ⟨g1a, g1b⟩ ⟨by show 801 ≤ (xs (t + 3)).toInt; omega, r3.2⟩ r4
  have g2a : (1 : Int) ≤ (xs (t + 3)).toInt := by omega
  have g2b : (xs (t + 3)).toInt ≤ (800 : Int) := by omega
  by_cases c3a : (xs (t + 4)).toInt < 10
  · exact key _ (List.mem_of_getElem? (i := 7) rfl) ⟨g0a, g0b⟩ ⟨g1a, g1b⟩ ⟨g2a, g2b⟩ ⟨r4.1, by show (xs (t + 4)).toInt ≤ 9; omega⟩
  by_cases c3b : 60 < (xs (t + 4)).toInt
  · exact key _ (List.mem_of_getElem? (i := 8) rfl) ⟨g0a, g0b⟩ ⟨g1a, g1b⟩ ⟨g2a, g2b⟩ ⟨by show 61 ≤ (xs (t + 4)).toInt; omega, r4.2⟩
  have g3a : (10 : Int) ≤ (xs (t + 4)).toInt := by omega
  have g3b : (xs (t + 4)).toInt ≤ (60 : Int) := by omega
  exact key _ List.mem_cons_self ⟨g0a, g0b⟩ ⟨g1a, g1b⟩ ⟨g2a, g2b⟩ ⟨g3a, g3b⟩
theorem wx_op2 {l : Launch} (hfl : l.flags = pinnedFlags ++ [noTraceFlag]) : wx_OC l 2 := by
  refine ⟨200, rx_mL0, [(0, 14, 17, 13), (0, 14, 21, 15)], _, 230, _, _, (5, 177, 5, 11), 236, _, _, (5, 124, 1, 11), wx_hf0, ⟨rfl, rfl, rfl, rfl⟩, ⟨rfl, rfl, rfl, rfl, rfl⟩, fun n hn xs t => ?_⟩
  obtain ⟨q, hq, hw⟩ := wy_c9 xs t
  obtain ⟨n', k, bv, X2, X3, X4, h1, h2, h3, h4, h5, h6, h7, h8, h9, h10⟩ := wy_da hfl hn q hq
  exact ⟨wy_wq q, wy_aq q, wy_wq q, n', k, bv, X2, X3, X4, rfl, hw, h1, rfl, rfl, List.all_eq_true.mp wy_b9 q hq, h2, h3, h4, h5, h6, h7, h8, h9, h10⟩
theorem wx_ops {l : Launch} (hfl : l.flags = pinnedFlags ++ [noTraceFlag]) : ∀ c0, c0 < 32 → wx_ON c0 ∨ wx_OH l c0 ∨ wx_OC l c0 := by
  intro c0 hc
  match c0, hc with
  | 0, _ => exact Or.inl wx_op0
  | 1, _ => exact Or.inl wx_op1
  | 2, _ => exact Or.inr (Or.inr (wx_op2 hfl))
  | 3, _ => exact Or.inr (Or.inl (wx_op3 hfl))
  | 4, _ => exact Or.inl wx_op4
  | 5, _ => exact Or.inr (Or.inl (wx_op5 hfl))
  | 6, _ => exact Or.inl wx_op6
  | 7, _ => exact Or.inl wx_op7
  | 8, _ => exact Or.inl wx_op8
  | 9, _ => exact Or.inl wx_op9
  | 10, _ => exact Or.inl wx_op10
  | 11, _ => exact Or.inl wx_op11
  | 12, _ => exact Or.inl wx_op12
  | 13, _ => exact Or.inr (Or.inl (wx_op13 hfl))
  | 14, _ => exact Or.inr (Or.inl (wx_op14 hfl))
  | 15, _ => exact Or.inr (Or.inl (wx_op15 hfl))
  | 16, _ => exact Or.inr (Or.inl (wx_op16 hfl))
  | 17, _ => exact Or.inl wx_op17
  | 18, _ => exact Or.inl wx_op18
  | 19, _ => exact Or.inl wx_op19
  | 20, _ => exact Or.inl wx_op20
  | 21, _ => exact Or.inl wx_op21
  | 22, _ => exact Or.inl wx_op22
  | 23, _ => exact Or.inl wx_op23
  | 24, _ => exact Or.inl wx_op24
  | 25, _ => exact Or.inl wx_op25
  | 26, _ => exact Or.inl wx_op26
  | 27, _ => exact Or.inl wx_op27
  | 28, _ => exact Or.inl wx_op28
  | 29, _ => exact Or.inl wx_op29
  | 30, _ => exact Or.inl wx_op30
  | 31, _ => exact Or.inl wx_op31
  | _ + 32, hc => omega
