/-! THE HELPERS' CALLS -/
def wx_iE (j : Nat) : Bool := wx_iP j || Nat.beq j 118 || Nat.beq j 119 || Nat.beq j 120 || Nat.beq j 121 || Nat.beq j 124
def wx_iA (j : Nat) : Option Nat := bif Nat.beq j 28 then some 1 else wx_iN j
noncomputable def wx_oF : wx_Orc := wx_P rx_xM rx_ro wx_T 0 wx_d0 wx_iE 600 3
noncomputable def wx_oN (t : rx_H) : wx_Orc := wx_A rx_xM rx_ro wx_T2 191 wx_d0 wx_iE wx_iA t 600 4
theorem wx_HO_F {l : Launch} {Φ : rx_H → rx_H} (hΦ : wx_Ph Φ) {t0 : rx_H} (wr : Bool) : wx_HO wr rx_xM l wx_oF rx_ro Φ t0 := wx_HO_Pk (X := Φ t0) (by decide) rx_hob rx_all hΦ wx_TT0 3 t0 wr rx_HS_rf
theorem wx_HO_N {l : Launch} {n : Nat} (hn : n ≤ 40) {Kn : rx_H} (hF : wx_fill n wx_Kst = Kn) : wx_HO true rx_xM l (wx_oN Kn) rx_ro (fun h => h) Kn := by
  have hT := wx_TT2 (l := l) hn
  rw [show wx_X n = Kn from hF] at hT
  exact wx_HO_A (Φ := fun h => h) (by decide) rx_hob rx_all wx_Ph_id hT 4
theorem wx_HRx {l : Launch} {orc : wx_Orc} {Φ : rx_H → rx_H} {t0 : rx_H} (hΦ : wx_Ph Φ) (hO : wx_HO true rx_xM l orc rx_ro Φ t0) {mt : rx_MT} (okm : rx_MOk rx_xM mt) {hh : List (Nat × Nat × Nat × Nat)} {dm : Nat} {as : List rx_V} (hc : wx_hR orc t0 mt dm as = true) : wx_HX l (Φ t0) (Φ t0) mt hh as dm (0, 2) :=
  fun D sb tt u hsb htt _ hu ad sz => wx_hR_ok hΦ hO okm hh hc D hsb htt hu ad sz
theorem rx_cwd0 : Jvm.Cond.codeWith rx_mL0.1 rx_mL0.2.1 rx_mL0.2.2.1 rx_mL0.2.2.2.1 [(0, 14, 17, 13), (0, 14, 21, 15)] ∈ rx_bw := rx_bw_t (rx_t4 (List.mem_of_getElem? (i := 107) rfl)) rfl
theorem rx_cst0 : Jvm.Cond.static rx_mL0.1 ∈ rx_bw := rx_bw_t (rx_t4 (List.mem_of_getElem? (i := 106) rfl)) rfl
theorem wx_HT0 {l : Launch} (hfl : l.flags = pinnedFlags ++ [noTraceFlag]) {Φ : rx_H → rx_H} (hΦ : wx_Ph Φ) {t0 : rx_H} {fs0 : List rx_V} (h0 : t0[0]? = some (.inl (0, fs0))) (pcT : Nat) {rowT : rx_Row} (hrT : rx_m16.2.2.2.2.2.1 pcT = some rowT) (h15 : rowT.2.2.2.1 = 15) (hx : rowT.2.2.2.2.1 = 0) {as : List rx_V} {rv : Int × Int} (hc : wx_hT wx_oF wx_oF t0 rx_mL0 rx_m16 9 5 6 19 pcT as rv = true) : wx_HX l (Φ t0) (Φ t0) rx_mL0 [(0, 14, 17, 13), (0, 14, 21, 15)] as 0 rv := by
  intro D sb tt u hsb htt _ hu ad sz
  obtain ⟨fs1, g1, -⟩ := hΦ.1 t0 0 0 fs0 h0
  exact wx_hT_ok (lo := 0) (hi := 14) (hpc := 17) (ct := 13) (x := 0) (X := "java/lang/IllegalArgumentException") hfl hΦ (wx_HO_F hΦ true) (wx_HO_F hΦ false) rx_moL0 (rx_all 16 _ rx_x16) (pcI := 9) rfl rfl rx_x16 rfl ⟨fs1, g1⟩ ⟨by decide, by decide⟩ (by decide) rfl (rx_bw_t (rx_t4 (List.mem_of_getElem? (i := 108) rfl)) rfl) (List.mem_of_getElem? (i := 3) rfl) (Or.inl ⟨by decide +kernel, rfl⟩) ⟨by decide, by decide⟩ rx_site16 hrT h15 hx hc D hsb htt (by omega) ad sz
theorem wx_HT0b {l : Launch} (hfl : l.flags = pinnedFlags ++ [noTraceFlag]) {Φ : rx_H → rx_H} (hΦ : wx_Ph Φ) {t0 : rx_H} {fs0 : List rx_V} (h0 : t0[0]? = some (.inl (0, fs0))) (pcT : Nat) {rowT : rx_Row} (hrT : rx_m16.2.2.2.2.2.1 pcT = some rowT) (h15 : rowT.2.2.2.1 = 15) (hx : rowT.2.2.2.2.1 = 1) {as : List rx_V} {rv : Int × Int} (hc : wx_hT wx_oF wx_oF t0 rx_mL0 rx_m16 9 5 6 23 pcT as rv = true) : wx_HX l (Φ t0) (Φ t0) rx_mL0 [(0, 14, 17, 13), (0, 14, 21, 15)] as 0 rv := by
  intro D sb tt u hsb htt _ hu ad sz
  obtain ⟨fs1, g1, -⟩ := hΦ.1 t0 0 0 fs0 h0
  exact wx_hT_ok2 (loY := 0) (hiY := 14) (hpcY := 17) (ctY := 13) (Y := "java/lang/IllegalArgumentException") (lo := 0) (hi := 14) (hpc := 21) (ct := 15) (x := 1) (X := "java/lang/IllegalStateException") hfl hΦ (wx_HO_F hΦ true) (wx_HO_F hΦ false) rx_moL0 (rx_all 16 _ rx_x16) (pcI := 9) rfl rfl rx_x16 rfl ⟨fs1, g1⟩ ⟨by decide, by decide⟩ (by decide) ⟨by decide, by decide⟩ (by decide) (rx_bw_t (rx_t4 (List.mem_of_getElem? (i := 108) rfl)) rfl) ⟨rfl, rfl⟩ rfl (rx_bw_t (rx_t4 (List.mem_of_getElem? (i := 109) rfl)) rfl) (List.mem_of_getElem? (i := 4) rfl) (Or.inl ⟨by decide +kernel, rfl⟩) ⟨by decide, by decide⟩ rx_site16 hrT h15 hx hc D hsb htt (by omega) ad sz
theorem rx_cwd1 : Jvm.Cond.codeWith rx_mL1.1 rx_mL1.2.1 rx_mL1.2.2.1 rx_mL1.2.2.2.1 [(0, 10, 13, 21)] ∈ rx_bw := rx_bw_t (rx_t5 (List.mem_of_getElem? (i := 7) rfl)) rfl
theorem rx_cst1 : Jvm.Cond.static rx_mL1.1 ∈ rx_bw := rx_bw_t (rx_t5 (List.mem_of_getElem? (i := 6) rfl)) rfl
theorem wx_HT1 {l : Launch} (hfl : l.flags = pinnedFlags ++ [noTraceFlag]) {Φ : rx_H → rx_H} (hΦ : wx_Ph Φ) {t0 : rx_H} {fs0 : List rx_V} (h0 : t0[0]? = some (.inl (0, fs0))) (pcT : Nat) {rowT : rx_Row} (hrT : rx_m28.2.2.2.2.2.1 pcT = some rowT) (h15 : rowT.2.2.2.1 = 15) (hx : rowT.2.2.2.2.1 = 2) {as : List rx_V} {rv : Int × Int} (hc : wx_hT wx_oF wx_oF t0 rx_mL1 rx_m28 5 3 4 15 pcT as rv = true) : wx_HX l (Φ t0) (Φ t0) rx_mL1 [(0, 10, 13, 21)] as 0 rv := by
  intro D sb tt u hsb htt _ hu ad sz
  obtain ⟨fs1, g1, -⟩ := hΦ.1 t0 0 0 fs0 h0
  exact wx_hT_ok (lo := 0) (hi := 10) (hpc := 13) (ct := 21) (x := 2) (X := "java/lang/IndexOutOfBoundsException") hfl hΦ (wx_HO_F hΦ true) (wx_HO_F hΦ false) rx_moL1 (rx_all 28 _ rx_x28) (pcI := 5) rfl rfl rx_x28 rfl ⟨fs1, g1⟩ ⟨by decide, by decide⟩ (by decide) rfl (rx_bw_t (rx_t5 (List.mem_of_getElem? (i := 8) rfl)) rfl) (List.mem_of_getElem? (i := 5) rfl) (Or.inl ⟨by decide +kernel, rfl⟩) ⟨by decide, by decide⟩ rx_site28 hrT h15 hx hc D hsb htt (by omega) ad sz
theorem rx_cwd2 : Jvm.Cond.codeWith rx_mL2.1 rx_mL2.2.1 rx_mL2.2.2.1 rx_mL2.2.2.2.1 [(0, 9, 12, 13)] ∈ rx_bw := rx_bw_t (rx_t5 (List.mem_of_getElem? (i := 37) rfl)) rfl
theorem rx_cst2 : Jvm.Cond.static rx_mL2.1 ∈ rx_bw := rx_bw_t (rx_t5 (List.mem_of_getElem? (i := 36) rfl)) rfl
theorem wx_HT2 {l : Launch} (hfl : l.flags = pinnedFlags ++ [noTraceFlag]) {Φ : rx_H → rx_H} (hΦ : wx_Ph Φ) {t0 : rx_H} {fs0 : List rx_V} (h0 : t0[0]? = some (.inl (0, fs0))) (pcT : Nat) {rowT : rx_Row} (hrT : rx_m101.2.2.2.2.2.1 pcT = some rowT) (h15 : rowT.2.2.2.1 = 15) (hx : rowT.2.2.2.2.1 = 0) {as : List rx_V} {rv : Int × Int} (hc : wx_hT wx_oF wx_oF t0 rx_mL2 rx_m101 4 2 3 13 pcT as rv = true) : wx_HX l (Φ t0) (Φ t0) rx_mL2 [(0, 9, 12, 13)] as 0 rv := by
  intro D sb tt u hsb htt _ hu ad sz
  obtain ⟨fs1, g1, -⟩ := hΦ.1 t0 0 0 fs0 h0
  exact wx_hT_ok (lo := 0) (hi := 9) (hpc := 12) (ct := 13) (x := 0) (X := "java/lang/IllegalArgumentException") hfl hΦ (wx_HO_F hΦ true) (wx_HO_F hΦ false) rx_moL2 (rx_all 101 _ rx_x101) (pcI := 4) rfl rfl rx_x101 rfl ⟨fs1, g1⟩ ⟨by decide, by decide⟩ (by decide) rfl (rx_bw_t (rx_t4 (List.mem_of_getElem? (i := 108) rfl)) rfl) (List.mem_of_getElem? (i := 3) rfl) (Or.inr ⟨3, by decide +kernel, rfl, rfl⟩) ⟨by decide, by decide⟩ rx_site101 hrT h15 hx hc D hsb htt (by omega) ad sz
theorem rx_cwd3 : Jvm.Cond.codeWith rx_mL3.1 rx_mL3.2.1 rx_mL3.2.2.1 rx_mL3.2.2.2.1 [(0, 10, 13, 21)] ∈ rx_bw := rx_bw_t (rx_t5 (List.mem_of_getElem? (i := 45) rfl)) rfl
theorem rx_cst3 : Jvm.Cond.static rx_mL3.1 ∈ rx_bw := rx_bw_t (rx_t5 (List.mem_of_getElem? (i := 44) rfl)) rfl
theorem wx_HT3 {l : Launch} (hfl : l.flags = pinnedFlags ++ [noTraceFlag]) {Φ : rx_H → rx_H} (hΦ : wx_Ph Φ) {t0 : rx_H} {fs0 : List rx_V} (h0 : t0[0]? = some (.inl (0, fs0))) (pcT : Nat) {rowT : rx_Row} (hrT : rx_m115.2.2.2.2.2.1 pcT = some rowT) (h15 : rowT.2.2.2.1 = 15) (hx : rowT.2.2.2.2.1 = 2) {as : List rx_V} {rv : Int × Int} (hc : wx_hT wx_oF wx_oF t0 rx_mL3 rx_m115 5 3 4 15 pcT as rv = true) : wx_HX l (Φ t0) (Φ t0) rx_mL3 [(0, 10, 13, 21)] as 0 rv := by
  intro D sb tt u hsb htt _ hu ad sz
  obtain ⟨fs1, g1, -⟩ := hΦ.1 t0 0 0 fs0 h0
  exact wx_hT_ok (lo := 0) (hi := 10) (hpc := 13) (ct := 21) (x := 2) (X := "java/lang/IndexOutOfBoundsException") hfl hΦ (wx_HO_F hΦ true) (wx_HO_F hΦ false) rx_moL3 (rx_all 115 _ rx_x115) (pcI := 5) rfl rfl rx_x115 rfl ⟨fs1, g1⟩ ⟨by decide, by decide⟩ (by decide) rfl (rx_bw_t (rx_t5 (List.mem_of_getElem? (i := 8) rfl)) rfl) (List.mem_of_getElem? (i := 5) rfl) (Or.inl ⟨by decide +kernel, rfl⟩) ⟨by decide, by decide⟩ rx_site115 hrT h15 hx hc D hsb htt (by omega) ad sz
theorem rx_cwd4 : Jvm.Cond.codeWith rx_mL4.1 rx_mL4.2.1 rx_mL4.2.2.1 rx_mL4.2.2.2.1 [(0, 10, 13, 21)] ∈ rx_bw := rx_bw_t (rx_t5 (List.mem_of_getElem? (i := 64) rfl)) rfl
theorem rx_cst4 : Jvm.Cond.static rx_mL4.1 ∈ rx_bw := rx_bw_t (rx_t5 (List.mem_of_getElem? (i := 63) rfl)) rfl
theorem wx_HT4 {l : Launch} (hfl : l.flags = pinnedFlags ++ [noTraceFlag]) {Φ : rx_H → rx_H} (hΦ : wx_Ph Φ) {t0 : rx_H} {fs0 : List rx_V} (h0 : t0[0]? = some (.inl (0, fs0))) (pcT : Nat) {rowT : rx_Row} (hrT : rx_m117.2.2.2.2.2.1 pcT = some rowT) (h15 : rowT.2.2.2.1 = 15) (hx : rowT.2.2.2.2.1 = 2) {as : List rx_V} {rv : Int × Int} (hc : wx_hT wx_oF wx_oF t0 rx_mL4 rx_m117 5 3 4 15 pcT as rv = true) : wx_HX l (Φ t0) (Φ t0) rx_mL4 [(0, 10, 13, 21)] as 0 rv := by
  intro D sb tt u hsb htt _ hu ad sz
  obtain ⟨fs1, g1, -⟩ := hΦ.1 t0 0 0 fs0 h0
  exact wx_hT_ok (lo := 0) (hi := 10) (hpc := 13) (ct := 21) (x := 2) (X := "java/lang/IndexOutOfBoundsException") hfl hΦ (wx_HO_F hΦ true) (wx_HO_F hΦ false) rx_moL4 (rx_all 117 _ rx_x117) (pcI := 5) rfl rfl rx_x117 rfl ⟨fs1, g1⟩ ⟨by decide, by decide⟩ (by decide) rfl (rx_bw_t (rx_t5 (List.mem_of_getElem? (i := 8) rfl)) rfl) (List.mem_of_getElem? (i := 5) rfl) (Or.inl ⟨by decide +kernel, rfl⟩) ⟨by decide, by decide⟩ rx_site117 hrT h15 hx hc D hsb htt (by omega) ad sz
theorem rx_cwd5 : Jvm.Cond.codeWith rx_mL5.1 rx_mL5.2.1 rx_mL5.2.2.1 rx_mL5.2.2.2.1 [(0, 10, 13, 21)] ∈ rx_bw := rx_bw_t (rx_t5 (List.mem_of_getElem? (i := 81) rfl)) rfl
theorem rx_cst5 : Jvm.Cond.static rx_mL5.1 ∈ rx_bw := rx_bw_t (rx_t5 (List.mem_of_getElem? (i := 80) rfl)) rfl
theorem wx_HT5 {l : Launch} (hfl : l.flags = pinnedFlags ++ [noTraceFlag]) {Φ : rx_H → rx_H} (hΦ : wx_Ph Φ) {t0 : rx_H} {fs0 : List rx_V} (h0 : t0[0]? = some (.inl (0, fs0))) (pcT : Nat) {rowT : rx_Row} (hrT : rx_m118.2.2.2.2.2.1 pcT = some rowT) (h15 : rowT.2.2.2.1 = 15) (hx : rowT.2.2.2.2.1 = 2) {as : List rx_V} {rv : Int × Int} (hc : wx_hT wx_oF wx_oF t0 rx_mL5 rx_m118 5 3 4 15 pcT as rv = true) : wx_HX l (Φ t0) (Φ t0) rx_mL5 [(0, 10, 13, 21)] as 0 rv := by
  intro D sb tt u hsb htt _ hu ad sz
  obtain ⟨fs1, g1, -⟩ := hΦ.1 t0 0 0 fs0 h0
  exact wx_hT_ok (lo := 0) (hi := 10) (hpc := 13) (ct := 21) (x := 2) (X := "java/lang/IndexOutOfBoundsException") hfl hΦ (wx_HO_F hΦ true) (wx_HO_F hΦ false) rx_moL5 (rx_all 118 _ rx_x118) (pcI := 5) rfl rfl rx_x118 rfl ⟨fs1, g1⟩ ⟨by decide, by decide⟩ (by decide) rfl (rx_bw_t (rx_t5 (List.mem_of_getElem? (i := 8) rfl)) rfl) (List.mem_of_getElem? (i := 5) rfl) (Or.inl ⟨by decide +kernel, rfl⟩) ⟨by decide, by decide⟩ rx_site118 hrT h15 hx hc D hsb htt (by omega) ad sz
theorem rx_cwd6 : Jvm.Cond.codeWith rx_mL6.1 rx_mL6.2.1 rx_mL6.2.2.1 rx_mL6.2.2.2.1 [(0, 10, 13, 21)] ∈ rx_bw := rx_bw_t (rx_t5 (List.mem_of_getElem? (i := 90) rfl)) rfl
theorem rx_cst6 : Jvm.Cond.static rx_mL6.1 ∈ rx_bw := rx_bw_t (rx_t5 (List.mem_of_getElem? (i := 89) rfl)) rfl
theorem wx_HT6 {l : Launch} (hfl : l.flags = pinnedFlags ++ [noTraceFlag]) {Φ : rx_H → rx_H} (hΦ : wx_Ph Φ) {t0 : rx_H} {fs0 : List rx_V} (h0 : t0[0]? = some (.inl (0, fs0))) (pcT : Nat) {rowT : rx_Row} (hrT : rx_m121.2.2.2.2.2.1 pcT = some rowT) (h15 : rowT.2.2.2.1 = 15) (hx : rowT.2.2.2.2.1 = 2) {as : List rx_V} {rv : Int × Int} (hc : wx_hT wx_oF wx_oF t0 rx_mL6 rx_m121 5 3 4 15 pcT as rv = true) : wx_HX l (Φ t0) (Φ t0) rx_mL6 [(0, 10, 13, 21)] as 0 rv := by
  intro D sb tt u hsb htt _ hu ad sz
  obtain ⟨fs1, g1, -⟩ := hΦ.1 t0 0 0 fs0 h0
  exact wx_hT_ok (lo := 0) (hi := 10) (hpc := 13) (ct := 21) (x := 2) (X := "java/lang/IndexOutOfBoundsException") hfl hΦ (wx_HO_F hΦ true) (wx_HO_F hΦ false) rx_moL6 (rx_all 121 _ rx_x121) (pcI := 5) rfl rfl rx_x121 rfl ⟨fs1, g1⟩ ⟨by decide, by decide⟩ (by decide) rfl (rx_bw_t (rx_t5 (List.mem_of_getElem? (i := 8) rfl)) rfl) (List.mem_of_getElem? (i := 5) rfl) (Or.inl ⟨by decide +kernel, rfl⟩) ⟨by decide, by decide⟩ rx_site121 hrT h15 hx hc D hsb htt (by omega) ad sz
def wx_lt : List (Int × Int) := [((-2147483648), 2147483647)]
def wx_l01 : List (Int × Int) := [((-2147483648), (-1)), (0, 1), (2, 2147483647)]
def wx_l02 : List (Int × Int) := [((-2147483648), (-1)), (0, 2), (3, 2147483647)]
def wx_l03 : List (Int × Int) := [((-2147483648), (-1)), (0, 3), (4, 2147483647)]
def wx_l04 : List (Int × Int) := [((-2147483648), (-1)), (0, 4), (5, 2147483647)]
def wx_l05 : List (Int × Int) := [((-2147483648), (-1)), (0, 5), (6, 2147483647)]
def wx_l08 : List (Int × Int) := [((-2147483648), (-1)), (0, 8), (9, 2147483647)]
def wx_lkw : List (Int × Int) := [((-2147483648), 0), (1, 800), (801, 2147483647)]
def wx_lfa : List (Int × Int) := [((-2147483648), 9), (10, 60), (61, 2147483647)]
def wx_ltk : List (Int × Int) := [((-2147483648), 0), (1, 1000), (1001, 2147483647)]
def wx_lz : List (Int × Int) := [((-2147483648), (-1)), (0, 0), (1, 2147483647)]
def wx_lsh : List (Int × Int) := [((-2147483648), 54999), (55000, 65000), (65001, 2147483647)]
def wx_lm (n : Nat) : List (Int × Int) := bif Nat.beq n 0 || Nat.beq n 40 then [((-2147483648), (-1)), (0, 39), (40, 2147483647)] else [(-2147483648, -1), (0, (n : Int) - 1), ((n : Int), 39), (40, 2147483647)]
def wx_le : List (Int × Int) := (-2147483648, -1) :: ((List.range 32).map (fun k : Nat => ((k : Int), (k : Int))) ++ [(32, 2147483647)])
def wx_a2 (q1 q2 : Int × Int) : List rx_V := [wx_r 0, .inl q1, .inl q2, wx_r 56]
def wx_a1 (q1 : Int × Int) : List rx_V := [wx_r 0, .inl q1, wx_r 56]
def wx_a4 (q1 q2 q3 q4 : Int × Int) : List rx_V := [wx_r 0, .inl q1, .inl q2, .inl q3, .inl q4, wx_r 56]
set_option maxRecDepth 100000 in
theorem wx_c3 : (wx_l02.all fun q1 => wx_l05.all fun q2 => wx_hT wx_oF wx_oF wx_Kst rx_mL3 rx_m115 5 3 4 15 17 (wx_a2 q1 q2) (0, 2) || wx_hR wx_oW wx_Kst rx_mL3 0 (wx_a2 q1 q2)) = true := by decide +kernel
theorem wx_H3 {l : Launch} (hfl : l.flags = pinnedFlags ++ [noTraceFlag]) {n : Nat} (hn : n ≤ 40) : ∀ q1 ∈ wx_l02, ∀ q2 ∈ wx_l05, wx_HE l n n rx_mL3 [(0, 10, 13, 21)] (wx_a2 q1 q2) 0 := by
  intro q1 h1 q2 h2
  have h := List.all_eq_true.mp (List.all_eq_true.mp wx_c3 q1 h1) q2 h2
  rcases rx_or2 h with h | h
  · exact wx_HT3 hfl (wx_Ph_fill n) (t0 := wx_Kst) rfl 17 rfl rfl rfl h
  · exact wx_HRx (wx_Ph_fill n) (wx_HO_W hn) rx_moL3 h
set_option maxRecDepth 100000 in
theorem wx_c4 : (wx_l05.all fun q1 => wx_l08.all fun q2 => wx_hT wx_oF wx_oF wx_Kst rx_mL4 rx_m117 5 3 4 15 18 (wx_a2 q1 q2) (0, 2) || wx_hR wx_oW wx_Kst rx_mL4 0 (wx_a2 q1 q2)) = true := by decide +kernel
theorem wx_H4 {l : Launch} (hfl : l.flags = pinnedFlags ++ [noTraceFlag]) {n : Nat} (hn : n ≤ 40) : ∀ q1 ∈ wx_l05, ∀ q2 ∈ wx_l08, wx_HE l n n rx_mL4 [(0, 10, 13, 21)] (wx_a2 q1 q2) 0 := by
  intro q1 h1 q2 h2
  have h := List.all_eq_true.mp (List.all_eq_true.mp wx_c4 q1 h1) q2 h2
  rcases rx_or2 h with h | h
  · exact wx_HT4 hfl (wx_Ph_fill n) (t0 := wx_Kst) rfl 18 rfl rfl rfl h
  · exact wx_HRx (wx_Ph_fill n) (wx_HO_W hn) rx_moL4 h
set_option maxRecDepth 100000 in
theorem wx_c2 : (wx_ltk.all fun q1 => wx_hT wx_oF wx_oF wx_Kst rx_mL2 rx_m101 4 2 3 13 12 (wx_a1 q1) (0, 2) || wx_hR wx_oW wx_Kst rx_mL2 295000 (wx_a1 q1)) = true := by decide +kernel
theorem wx_H2 {l : Launch} (hfl : l.flags = pinnedFlags ++ [noTraceFlag]) {n : Nat} (hn : n ≤ 40) : ∀ q1 ∈ wx_ltk, wx_HE l n n rx_mL2 [(0, 9, 12, 13)] (wx_a1 q1) 295000 := by
  intro q1 h1
  have h := List.all_eq_true.mp wx_c2 q1 h1
  rcases rx_or2 h with h | h
  · exact wx_HX_up (wx_HT2 hfl (wx_Ph_fill n) (t0 := wx_Kst) rfl 12 rfl rfl rfl h) (by decide)
  · exact wx_HRx (wx_Ph_fill n) (wx_HO_W hn) rx_moL2 h
