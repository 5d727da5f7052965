/-! WHAT IS KNOWN OF THE HELPERS' CALLS -/
noncomputable def rx_orL (ro : List (List rx_V)) (n : Nat) : rx_Orc := fun j h as => bif Nat.ble 1000 j then (bif Nat.beq j 1000 then rx_orD rx_orT ro n rx_mL0 rx_m16 9 5 0 6 19 0 h as
  else bif Nat.beq j 1001 then rx_orD rx_orT ro n rx_mL1 rx_m28 5 3 0 4 15 2 h as
  else bif Nat.beq j 1002 then rx_orD rx_orT ro n rx_mL2 rx_m101 4 2 0 3 13 0 h as
  else bif Nat.beq j 1003 then rx_orD rx_orT ro n rx_mL3 rx_m115 5 3 0 4 15 2 h as
  else bif Nat.beq j 1004 then rx_orD rx_orT ro n rx_mL4 rx_m117 5 3 0 4 15 2 h as
  else bif Nat.beq j 1005 then rx_orD rx_orT ro n rx_mL5 rx_m118 5 3 0 4 15 2 h as
  else bif Nat.beq j 1006 then rx_orD rx_orT ro n rx_mL6 rx_m121 5 3 0 4 15 2 h as
  else none) else rx_orT j h as
theorem rx_HO_L {l : Launch} {ro2 : List (List rx_V)} (n : Nat) (hro : rx_ro <+: ro2) : rx_HO true rx_xM l (rx_orL ro2 n) ro2 := by
  intro j mj h as v h' mc ms hj ho D sa ad sz
  have hlt : j < 1000 := Nat.lt_of_lt_of_le (List.getElem?_eq_some_iff.mp hj).1 rx_xl
  have e : rx_orL ro2 n j h as = rx_orT j h as := by
    unfold rx_orL
    have hb : Nat.ble 1000 j = false := by
      cases hb : Nat.ble 1000 j with
      | false => rfl
      | true => have := Nat.le_of_ble_eq_true hb; omega
    rw [hb]
    rfl
  rw [e] at ho
  exact rx_HO_T hro j mj h as v h' mc ms hj ho D sa ad sz
theorem rx_cwd0 : Jvm.Cond.codeWith rx_mL0.1 rx_mL0.2.1 rx_mL0.2.2.1 rx_mL0.2.2.2.1 [(0, 14, 17, 13), (0, 14, 21, 15)] ∈ rx_bw := rx_bw_t (rx_t4 (List.mem_of_getElem? (i := 107) rfl)) rfl
theorem rx_hs0 {l : Launch} (hfl : l.flags = pinnedFlags ++ [noTraceFlag]) {ro : List (List rx_V)} (hro : rx_ro <+: ro) {n : Nat} {h : rx_H} {as : List rx_V} {v : Option rx_V} {h' : rx_H} {dc ds : Nat} (ho : rx_orD rx_orT ro n rx_mL0 rx_m16 9 5 0 6 19 0 h as = some (v, h', dc, ds)) :
    ∃ (mt : rx_MT) (hh : List (Nat × Nat × Nat × Nat)) (h1 : rx_H), mt.1 = ⟨"ShipPowerLaw", "consumer", "(LShipPower;IIII[J)I"⟩ ∧ Jvm.Cond.codeWith mt.1 mt.2.1 mt.2.2.1 mt.2.2.2.1 hh ∈ rx_bw ∧ Jvm.Cond.static mt.1 ∈ rx_bw ∧ Jvm.Cond.initialized mt.1.cls ∈ rx_bw ∧ (mt.1.cls ≠ "java/lang/invoke/MethodHandle" ∧ mt.1.cls ≠ "java/lang/invoke/VarHandle") ∧ rx_HS h1 h' ∧ mt.2.2.2.2.2.2.1 + 1 ≤ 10 ∧ 8 + (mt.2.2.1 + 11) + mt.2.2.2.2.2.2.2.1 ≤ 364 ∧
      ∀ (D : va_G) (sa ad : List Nat) (sz : Nat), Met l mt.1 (rx_wsH mt hh) (rx_rm mt dc ds) (rx_Pc true D sa ad ro h as sz) (rx_Qc true D sa ad h1 v sz) dc ds (rx_AW true ad sz) := by
  obtain ⟨h1, q1, q2⟩ := rx_orD_ok (mt := rx_mL0) (mj := rx_m16) (pcI := 9) (x := 0) (slot := 6) (pc2 := 19) (lo := 0) (hi := 14) (hpc := 17) (ct := 13) (ht := [(0, 14, 21, 15)]) (X := "java/lang/IllegalArgumentException") hfl (rx_F_all l rx_xl (rx_HO_T hro) rx_HH_T rx_all rx_hob n) (rx_F_all l rx_xl rx_HO_no rx_HH_no rx_all rx_hob n) rx_moL0 rfl rfl rx_x16 rfl ⟨by decide, by decide⟩ rx_site16 ⟨by decide, by decide⟩ (by decide) rfl (rx_bw_t (rx_t4 (List.mem_of_getElem? (i := 108) rfl)) rfl) (List.mem_of_getElem? (i := 3) rfl) (Or.inl ⟨by decide +kernel, rfl⟩) rfl rfl ho
  exact ⟨rx_mL0, _, h1, rfl, rx_cwd0, rx_bw_t (rx_t4 (List.mem_of_getElem? (i := 106) rfl)) rfl, rx_bw_t (rx_t1 (List.mem_of_getElem? (i := 0) rfl)) rfl, ⟨by decide, by decide⟩, q1, by decide, by decide, q2⟩
theorem rx_cwd1 : Jvm.Cond.codeWith rx_mL1.1 rx_mL1.2.1 rx_mL1.2.2.1 rx_mL1.2.2.2.1 [(0, 10, 13, 21)] ∈ rx_bw := rx_bw_t (rx_t5 (List.mem_of_getElem? (i := 7) rfl)) rfl
theorem rx_hs1 {l : Launch} (hfl : l.flags = pinnedFlags ++ [noTraceFlag]) {ro : List (List rx_V)} (hro : rx_ro <+: ro) {n : Nat} {h : rx_H} {as : List rx_V} {v : Option rx_V} {h' : rx_H} {dc ds : Nat} (ho : rx_orD rx_orT ro n rx_mL1 rx_m28 5 3 0 4 15 2 h as = some (v, h', dc, ds)) :
    ∃ (mt : rx_MT) (hh : List (Nat × Nat × Nat × Nat)) (h1 : rx_H), mt.1 = ⟨"ShipPowerLaw", "ask", "(LShipPower;IZ[J)I"⟩ ∧ Jvm.Cond.codeWith mt.1 mt.2.1 mt.2.2.1 mt.2.2.2.1 hh ∈ rx_bw ∧ Jvm.Cond.static mt.1 ∈ rx_bw ∧ Jvm.Cond.initialized mt.1.cls ∈ rx_bw ∧ (mt.1.cls ≠ "java/lang/invoke/MethodHandle" ∧ mt.1.cls ≠ "java/lang/invoke/VarHandle") ∧ rx_HS h1 h' ∧ mt.2.2.2.2.2.2.1 + 1 ≤ 10 ∧ 8 + (mt.2.2.1 + 11) + mt.2.2.2.2.2.2.2.1 ≤ 364 ∧
      ∀ (D : va_G) (sa ad : List Nat) (sz : Nat), Met l mt.1 (rx_wsH mt hh) (rx_rm mt dc ds) (rx_Pc true D sa ad ro h as sz) (rx_Qc true D sa ad h1 v sz) dc ds (rx_AW true ad sz) := by
  obtain ⟨h1, q1, q2⟩ := rx_orD_ok (mt := rx_mL1) (mj := rx_m28) (pcI := 5) (x := 2) (slot := 4) (pc2 := 15) (lo := 0) (hi := 10) (hpc := 13) (ct := 21) (ht := []) (X := "java/lang/IndexOutOfBoundsException") hfl (rx_F_all l rx_xl (rx_HO_T hro) rx_HH_T rx_all rx_hob n) (rx_F_all l rx_xl rx_HO_no rx_HH_no rx_all rx_hob n) rx_moL1 rfl rfl rx_x28 rfl ⟨by decide, by decide⟩ rx_site28 ⟨by decide, by decide⟩ (by decide) rfl (rx_bw_t (rx_t5 (List.mem_of_getElem? (i := 8) rfl)) rfl) (List.mem_of_getElem? (i := 5) rfl) (Or.inl ⟨by decide +kernel, rfl⟩) rfl rfl ho
  exact ⟨rx_mL1, _, h1, rfl, rx_cwd1, rx_bw_t (rx_t5 (List.mem_of_getElem? (i := 6) rfl)) rfl, rx_bw_t (rx_t1 (List.mem_of_getElem? (i := 0) rfl)) rfl, ⟨by decide, by decide⟩, q1, by decide, by decide, q2⟩
theorem rx_cwd2 : Jvm.Cond.codeWith rx_mL2.1 rx_mL2.2.1 rx_mL2.2.2.1 rx_mL2.2.2.2.1 [(0, 9, 12, 13)] ∈ rx_bw := rx_bw_t (rx_t5 (List.mem_of_getElem? (i := 37) rfl)) rfl
theorem rx_hs2 {l : Launch} (hfl : l.flags = pinnedFlags ++ [noTraceFlag]) {ro : List (List rx_V)} (hro : rx_ro <+: ro) {n : Nat} {h : rx_H} {as : List rx_V} {v : Option rx_V} {h' : rx_H} {dc ds : Nat} (ho : rx_orD rx_orT ro n rx_mL2 rx_m101 4 2 0 3 13 0 h as = some (v, h', dc, ds)) :
    ∃ (mt : rx_MT) (hh : List (Nat × Nat × Nat × Nat)) (h1 : rx_H), mt.1 = ⟨"ShipPowerLaw", "ticks", "(LShipPower;I[J)I"⟩ ∧ Jvm.Cond.codeWith mt.1 mt.2.1 mt.2.2.1 mt.2.2.2.1 hh ∈ rx_bw ∧ Jvm.Cond.static mt.1 ∈ rx_bw ∧ Jvm.Cond.initialized mt.1.cls ∈ rx_bw ∧ (mt.1.cls ≠ "java/lang/invoke/MethodHandle" ∧ mt.1.cls ≠ "java/lang/invoke/VarHandle") ∧ rx_HS h1 h' ∧ mt.2.2.2.2.2.2.1 + 1 ≤ 10 ∧ 8 + (mt.2.2.1 + 11) + mt.2.2.2.2.2.2.2.1 ≤ 364 ∧
      ∀ (D : va_G) (sa ad : List Nat) (sz : Nat), Met l mt.1 (rx_wsH mt hh) (rx_rm mt dc ds) (rx_Pc true D sa ad ro h as sz) (rx_Qc true D sa ad h1 v sz) dc ds (rx_AW true ad sz) := by
  obtain ⟨h1, q1, q2⟩ := rx_orD_ok (mt := rx_mL2) (mj := rx_m101) (pcI := 4) (x := 0) (slot := 3) (pc2 := 13) (lo := 0) (hi := 9) (hpc := 12) (ct := 13) (ht := []) (X := "java/lang/IllegalArgumentException") hfl (rx_F_all l rx_xl (rx_HO_T hro) rx_HH_T rx_all rx_hob n) (rx_F_all l rx_xl rx_HO_no rx_HH_no rx_all rx_hob n) rx_moL2 rfl rfl rx_x101 rfl ⟨by decide, by decide⟩ rx_site101 ⟨by decide, by decide⟩ (by decide) rfl (rx_bw_t (rx_t4 (List.mem_of_getElem? (i := 108) rfl)) rfl) (List.mem_of_getElem? (i := 3) rfl) (Or.inr ⟨3, by decide +kernel, rfl, rfl⟩) rfl rfl ho
  exact ⟨rx_mL2, _, h1, rfl, rx_cwd2, rx_bw_t (rx_t5 (List.mem_of_getElem? (i := 36) rfl)) rfl, rx_bw_t (rx_t1 (List.mem_of_getElem? (i := 0) rfl)) rfl, ⟨by decide, by decide⟩, q1, by decide, by decide, q2⟩
theorem rx_cwd3 : Jvm.Cond.codeWith rx_mL3.1 rx_mL3.2.1 rx_mL3.2.2.1 rx_mL3.2.2.2.1 [(0, 10, 13, 21)] ∈ rx_bw := rx_bw_t (rx_t5 (List.mem_of_getElem? (i := 45) rfl)) rfl
theorem rx_hs3 {l : Launch} (hfl : l.flags = pinnedFlags ++ [noTraceFlag]) {ro : List (List rx_V)} (hro : rx_ro <+: ro) {n : Nat} {h : rx_H} {as : List rx_V} {v : Option rx_V} {h' : rx_H} {dc ds : Nat} (ho : rx_orD rx_orT ro n rx_mL3 rx_m115 5 3 0 4 15 2 h as = some (v, h', dc, ds)) :
    ∃ (mt : rx_MT) (hh : List (Nat × Nat × Nat × Nat)) (h1 : rx_H), mt.1 = ⟨"ShipPowerLaw", "bus", "(LShipPower;II[J)I"⟩ ∧ Jvm.Cond.codeWith mt.1 mt.2.1 mt.2.2.1 mt.2.2.2.1 hh ∈ rx_bw ∧ Jvm.Cond.static mt.1 ∈ rx_bw ∧ Jvm.Cond.initialized mt.1.cls ∈ rx_bw ∧ (mt.1.cls ≠ "java/lang/invoke/MethodHandle" ∧ mt.1.cls ≠ "java/lang/invoke/VarHandle") ∧ rx_HS h1 h' ∧ mt.2.2.2.2.2.2.1 + 1 ≤ 10 ∧ 8 + (mt.2.2.1 + 11) + mt.2.2.2.2.2.2.2.1 ≤ 364 ∧
      ∀ (D : va_G) (sa ad : List Nat) (sz : Nat), Met l mt.1 (rx_wsH mt hh) (rx_rm mt dc ds) (rx_Pc true D sa ad ro h as sz) (rx_Qc true D sa ad h1 v sz) dc ds (rx_AW true ad sz) := by
  obtain ⟨h1, q1, q2⟩ := rx_orD_ok (mt := rx_mL3) (mj := rx_m115) (pcI := 5) (x := 2) (slot := 4) (pc2 := 15) (lo := 0) (hi := 10) (hpc := 13) (ct := 21) (ht := []) (X := "java/lang/IndexOutOfBoundsException") hfl (rx_F_all l rx_xl (rx_HO_T hro) rx_HH_T rx_all rx_hob n) (rx_F_all l rx_xl rx_HO_no rx_HH_no rx_all rx_hob n) rx_moL3 rfl rfl rx_x115 rfl ⟨by decide, by decide⟩ rx_site115 ⟨by decide, by decide⟩ (by decide) rfl (rx_bw_t (rx_t5 (List.mem_of_getElem? (i := 8) rfl)) rfl) (List.mem_of_getElem? (i := 5) rfl) (Or.inl ⟨by decide +kernel, rfl⟩) rfl rfl ho
  exact ⟨rx_mL3, _, h1, rfl, rx_cwd3, rx_bw_t (rx_t5 (List.mem_of_getElem? (i := 44) rfl)) rfl, rx_bw_t (rx_t1 (List.mem_of_getElem? (i := 0) rfl)) rfl, ⟨by decide, by decide⟩, q1, by decide, by decide, q2⟩
theorem rx_cwd4 : Jvm.Cond.codeWith rx_mL4.1 rx_mL4.2.1 rx_mL4.2.2.1 rx_mL4.2.2.2.1 [(0, 10, 13, 21)] ∈ rx_bw := rx_bw_t (rx_t5 (List.mem_of_getElem? (i := 64) rfl)) rfl
theorem rx_hs4 {l : Launch} (hfl : l.flags = pinnedFlags ++ [noTraceFlag]) {ro : List (List rx_V)} (hro : rx_ro <+: ro) {n : Nat} {h : rx_H} {as : List rx_V} {v : Option rx_V} {h' : rx_H} {dc ds : Nat} (ho : rx_orD rx_orT ro n rx_mL4 rx_m117 5 3 0 4 15 2 h as = some (v, h', dc, ds)) :
    ∃ (mt : rx_MT) (hh : List (Nat × Nat × Nat × Nat)) (h1 : rx_H), mt.1 = ⟨"ShipPowerLaw", "set", "(LShipPower;II[J)I"⟩ ∧ Jvm.Cond.codeWith mt.1 mt.2.1 mt.2.2.1 mt.2.2.2.1 hh ∈ rx_bw ∧ Jvm.Cond.static mt.1 ∈ rx_bw ∧ Jvm.Cond.initialized mt.1.cls ∈ rx_bw ∧ (mt.1.cls ≠ "java/lang/invoke/MethodHandle" ∧ mt.1.cls ≠ "java/lang/invoke/VarHandle") ∧ rx_HS h1 h' ∧ mt.2.2.2.2.2.2.1 + 1 ≤ 10 ∧ 8 + (mt.2.2.1 + 11) + mt.2.2.2.2.2.2.2.1 ≤ 364 ∧
      ∀ (D : va_G) (sa ad : List Nat) (sz : Nat), Met l mt.1 (rx_wsH mt hh) (rx_rm mt dc ds) (rx_Pc true D sa ad ro h as sz) (rx_Qc true D sa ad h1 v sz) dc ds (rx_AW true ad sz) := by
  obtain ⟨h1, q1, q2⟩ := rx_orD_ok (mt := rx_mL4) (mj := rx_m117) (pcI := 5) (x := 2) (slot := 4) (pc2 := 15) (lo := 0) (hi := 10) (hpc := 13) (ct := 21) (ht := []) (X := "java/lang/IndexOutOfBoundsException") hfl (rx_F_all l rx_xl (rx_HO_T hro) rx_HH_T rx_all rx_hob n) (rx_F_all l rx_xl rx_HO_no rx_HH_no rx_all rx_hob n) rx_moL4 rfl rfl rx_x117 rfl ⟨by decide, by decide⟩ rx_site117 ⟨by decide, by decide⟩ (by decide) rfl (rx_bw_t (rx_t5 (List.mem_of_getElem? (i := 8) rfl)) rfl) (List.mem_of_getElem? (i := 5) rfl) (Or.inl ⟨by decide +kernel, rfl⟩) rfl rfl ho
  exact ⟨rx_mL4, _, h1, rfl, rx_cwd4, rx_bw_t (rx_t5 (List.mem_of_getElem? (i := 63) rfl)) rfl, rx_bw_t (rx_t1 (List.mem_of_getElem? (i := 0) rfl)) rfl, ⟨by decide, by decide⟩, q1, by decide, by decide, q2⟩
theorem rx_cwd5 : Jvm.Cond.codeWith rx_mL5.1 rx_mL5.2.1 rx_mL5.2.2.1 rx_mL5.2.2.2.1 [(0, 10, 13, 21)] ∈ rx_bw := rx_bw_t (rx_t5 (List.mem_of_getElem? (i := 81) rfl)) rfl
theorem rx_hs5 {l : Launch} (hfl : l.flags = pinnedFlags ++ [noTraceFlag]) {ro : List (List rx_V)} (hro : rx_ro <+: ro) {n : Nat} {h : rx_H} {as : List rx_V} {v : Option rx_V} {h' : rx_H} {dc ds : Nat} (ho : rx_orD rx_orT ro n rx_mL5 rx_m118 5 3 0 4 15 2 h as = some (v, h', dc, ds)) :
    ∃ (mt : rx_MT) (hh : List (Nat × Nat × Nat × Nat)) (h1 : rx_H), mt.1 = ⟨"ShipPowerLaw", "look", "(LShipPower;II[J)I"⟩ ∧ Jvm.Cond.codeWith mt.1 mt.2.1 mt.2.2.1 mt.2.2.2.1 hh ∈ rx_bw ∧ Jvm.Cond.static mt.1 ∈ rx_bw ∧ Jvm.Cond.initialized mt.1.cls ∈ rx_bw ∧ (mt.1.cls ≠ "java/lang/invoke/MethodHandle" ∧ mt.1.cls ≠ "java/lang/invoke/VarHandle") ∧ rx_HS h1 h' ∧ mt.2.2.2.2.2.2.1 + 1 ≤ 10 ∧ 8 + (mt.2.2.1 + 11) + mt.2.2.2.2.2.2.2.1 ≤ 364 ∧
      ∀ (D : va_G) (sa ad : List Nat) (sz : Nat), Met l mt.1 (rx_wsH mt hh) (rx_rm mt dc ds) (rx_Pc true D sa ad ro h as sz) (rx_Qc true D sa ad h1 v sz) dc ds (rx_AW true ad sz) := by
  obtain ⟨h1, q1, q2⟩ := rx_orD_ok (mt := rx_mL5) (mj := rx_m118) (pcI := 5) (x := 2) (slot := 4) (pc2 := 15) (lo := 0) (hi := 10) (hpc := 13) (ct := 21) (ht := []) (X := "java/lang/IndexOutOfBoundsException") hfl (rx_F_all l rx_xl (rx_HO_T hro) rx_HH_T rx_all rx_hob n) (rx_F_all l rx_xl rx_HO_no rx_HH_no rx_all rx_hob n) rx_moL5 rfl rfl rx_x118 rfl ⟨by decide, by decide⟩ rx_site118 ⟨by decide, by decide⟩ (by decide) rfl (rx_bw_t (rx_t5 (List.mem_of_getElem? (i := 8) rfl)) rfl) (List.mem_of_getElem? (i := 5) rfl) (Or.inl ⟨by decide +kernel, rfl⟩) rfl rfl ho
  exact ⟨rx_mL5, _, h1, rfl, rx_cwd5, rx_bw_t (rx_t5 (List.mem_of_getElem? (i := 80) rfl)) rfl, rx_bw_t (rx_t1 (List.mem_of_getElem? (i := 0) rfl)) rfl, ⟨by decide, by decide⟩, q1, by decide, by decide, q2⟩
theorem rx_cwd6 : Jvm.Cond.codeWith rx_mL6.1 rx_mL6.2.1 rx_mL6.2.2.1 rx_mL6.2.2.2.1 [(0, 10, 13, 21)] ∈ rx_bw := rx_bw_t (rx_t5 (List.mem_of_getElem? (i := 90) rfl)) rfl
theorem rx_hs6 {l : Launch} (hfl : l.flags = pinnedFlags ++ [noTraceFlag]) {ro : List (List rx_V)} (hro : rx_ro <+: ro) {n : Nat} {h : rx_H} {as : List rx_V} {v : Option rx_V} {h' : rx_H} {dc ds : Nat} (ho : rx_orD rx_orT ro n rx_mL6 rx_m121 5 3 0 4 15 2 h as = some (v, h', dc, ds)) :
    ∃ (mt : rx_MT) (hh : List (Nat × Nat × Nat × Nat)) (h1 : rx_H), mt.1 = ⟨"ShipPowerLaw", "event", "(LShipPower;II[J)I"⟩ ∧ Jvm.Cond.codeWith mt.1 mt.2.1 mt.2.2.1 mt.2.2.2.1 hh ∈ rx_bw ∧ Jvm.Cond.static mt.1 ∈ rx_bw ∧ Jvm.Cond.initialized mt.1.cls ∈ rx_bw ∧ (mt.1.cls ≠ "java/lang/invoke/MethodHandle" ∧ mt.1.cls ≠ "java/lang/invoke/VarHandle") ∧ rx_HS h1 h' ∧ mt.2.2.2.2.2.2.1 + 1 ≤ 10 ∧ 8 + (mt.2.2.1 + 11) + mt.2.2.2.2.2.2.2.1 ≤ 364 ∧
      ∀ (D : va_G) (sa ad : List Nat) (sz : Nat), Met l mt.1 (rx_wsH mt hh) (rx_rm mt dc ds) (rx_Pc true D sa ad ro h as sz) (rx_Qc true D sa ad h1 v sz) dc ds (rx_AW true ad sz) := by
  obtain ⟨h1, q1, q2⟩ := rx_orD_ok (mt := rx_mL6) (mj := rx_m121) (pcI := 5) (x := 2) (slot := 4) (pc2 := 15) (lo := 0) (hi := 10) (hpc := 13) (ct := 21) (ht := []) (X := "java/lang/IndexOutOfBoundsException") hfl (rx_F_all l rx_xl (rx_HO_T hro) rx_HH_T rx_all rx_hob n) (rx_F_all l rx_xl rx_HO_no rx_HH_no rx_all rx_hob n) rx_moL6 rfl rfl rx_x121 rfl ⟨by decide, by decide⟩ rx_site121 ⟨by decide, by decide⟩ (by decide) rfl (rx_bw_t (rx_t5 (List.mem_of_getElem? (i := 8) rfl)) rfl) (List.mem_of_getElem? (i := 5) rfl) (Or.inl ⟨by decide +kernel, rfl⟩) rfl rfl ho
  exact ⟨rx_mL6, _, h1, rfl, rx_cwd6, rx_bw_t (rx_t5 (List.mem_of_getElem? (i := 89) rfl)) rfl, rx_bw_t (rx_t1 (List.mem_of_getElem? (i := 0) rfl)) rfl, ⟨by decide, by decide⟩, q1, by decide, by decide, q2⟩
set_option maxRecDepth 100000 in
theorem rx_HH_L {l : Launch} (hfl : l.flags = pinnedFlags ++ [noTraceFlag]) {ro : List (List rx_V)} (n : Nat) (hro : rx_ro <+: ro) : rx_HH true rx_xM l (rx_orL ro n) ro := by
  refine rx_HH_of (fun i h as v h' dc ds y hy ho => ?_)
  match i, hy with
  | 0, hy => cases hy; exact rx_hs0 hfl hro ho
  | 1, hy => cases hy; exact rx_hs1 hfl hro ho
  | 2, hy => cases hy; exact rx_hs2 hfl hro ho
  | 3, hy => cases hy; exact rx_hs3 hfl hro ho
  | 4, hy => cases hy; exact rx_hs4 hfl hro ho
  | 5, hy => cases hy; exact rx_hs5 hfl hro ho
  | 6, hy => cases hy; exact rx_hs6 hfl hro ho
  | _ + 7, hy => cases hy
