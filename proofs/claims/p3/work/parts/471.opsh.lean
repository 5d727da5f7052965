/-! THE LAW's WAYS WITH A HELPER -/
theorem wx_hf0 : wx_HF 200 rx_mL0 [(0, 14, 17, 13), (0, 14, 21, 15)] (16, 1000, 6, 0) := ⟨⟨_, _, rfl⟩, rfl, rfl, rx_cwd0, rx_cst0, rx_bw_t (rx_t1 (List.mem_of_getElem? (i := 0) rfl)) rfl, ⟨by decide, by decide⟩, by decide, by decide⟩
theorem wx_hf1 : wx_HF 260 rx_mL1 [(0, 10, 13, 21)] (16, 1001, 4, 0) := ⟨⟨_, _, rfl⟩, rfl, rfl, rx_cwd1, rx_cst1, rx_bw_t (rx_t1 (List.mem_of_getElem? (i := 0) rfl)) rfl, ⟨by decide, by decide⟩, by decide, by decide⟩
theorem wx_hf2 : wx_HF 315 rx_mL2 [(0, 9, 12, 13)] (16, 1002, 3, 0) := ⟨⟨_, _, rfl⟩, rfl, rfl, rx_cwd2, rx_cst2, rx_bw_t (rx_t1 (List.mem_of_getElem? (i := 0) rfl)) rfl, ⟨by decide, by decide⟩, by decide, by decide⟩
theorem wx_hf3 : wx_HF 596 rx_mL3 [(0, 10, 13, 21)] (16, 1003, 4, 0) := ⟨⟨_, _, rfl⟩, rfl, rfl, rx_cwd3, rx_cst3, rx_bw_t (rx_t1 (List.mem_of_getElem? (i := 0) rfl)) rfl, ⟨by decide, by decide⟩, by decide, by decide⟩
theorem wx_hf4 : wx_HF 636 rx_mL4 [(0, 10, 13, 21)] (16, 1004, 4, 0) := ⟨⟨_, _, rfl⟩, rfl, rfl, rx_cwd4, rx_cst4, rx_bw_t (rx_t1 (List.mem_of_getElem? (i := 0) rfl)) rfl, ⟨by decide, by decide⟩, by decide, by decide⟩
theorem wx_hf5 : wx_HF 676 rx_mL5 [(0, 10, 13, 21)] (16, 1005, 4, 0) := ⟨⟨_, _, rfl⟩, rfl, rfl, rx_cwd5, rx_cst5, rx_bw_t (rx_t1 (List.mem_of_getElem? (i := 0) rfl)) rfl, ⟨by decide, by decide⟩, by decide, by decide⟩
theorem wx_hf6 : wx_HF 716 rx_mL6 [(0, 10, 13, 21)] (16, 1006, 4, 0) := ⟨⟨_, _, rfl⟩, rfl, rfl, rx_cwd6, rx_cst6, rx_bw_t (rx_t1 (List.mem_of_getElem? (i := 0) rfl)) rfl, ⟨by decide, by decide⟩, by decide, by decide⟩
set_option maxRecDepth 100000 in
theorem wx_ln2 : wx_al wx_l02 wx_l05 wx_lkw wx_lfa (fun q1 q2 q3 q4 => Nat.beq ((fun q1 q2 q3 q4 => wx_a4 q1 q2 q3 q4) q1 q2 q3 q4).length 6 && (wx_lawA 2 200 (wx_w4 q1 q2 q3 q4) ((fun q1 q2 q3 q4 => wx_a4 q1 q2 q3 q4) q1 q2 q3 q4) && wx_lawB 2 203 767 (wx_w4 q1 q2 q3 q4) [.inl (0, 2)] [])) = true := by decide +kernel
theorem wx_op2 {l : Launch} (hfl : l.flags = pinnedFlags ++ [noTraceFlag]) : wx_OH l 2 := wx_OH_of (a := fun _ => wx_l02) (b := fun _ => wx_l05) (d := fun _ => wx_lkw) (f := fun _ => wx_lfa) (as := fun q1 q2 q3 q4 => wx_a4 q1 q2 q3 q4) wx_hf0 (fun _ _ => by decide +kernel) (fun _ _ => wx_ln2) (fun n hn q1 h1 q2 h2 q3 h3 q4 h4 => by
    obtain ⟨n', g1, g2⟩ := wx_H0 hfl hn q1 h1 q2 h2 q3 h3 q4 h4
    exact ⟨n', 0, g1, by decide, g2⟩)
set_option maxRecDepth 100000 in
theorem wx_ln5 : wx_al wx_ltk wx_lt wx_lt wx_lt (fun q1 q2 q3 q4 => Nat.beq ((fun q1 _ _ _ => wx_a1 q1) q1 q2 q3 q4).length 3 && (wx_lawA 5 315 (wx_w4 q1 q2 q3 q4) ((fun q1 _ _ _ => wx_a1 q1) q1 q2 q3 q4) && wx_lawB 5 318 767 (wx_w4 q1 q2 q3 q4) [.inl (0, 2)] [])) = true := by decide +kernel
theorem wx_op5 {l : Launch} (hfl : l.flags = pinnedFlags ++ [noTraceFlag]) : wx_OH l 5 := wx_OH_of (a := fun _ => wx_ltk) (b := fun _ => wx_lt) (d := fun _ => wx_lt) (f := fun _ => wx_lt) (as := fun q1 _ _ _ => wx_a1 q1) wx_hf2 (fun _ _ => by decide +kernel) (fun _ _ => wx_ln5) (fun n hn q1 h1 _ _ _ _ _ _ => ⟨n, 295000, hn, by decide, wx_H2 hfl hn q1 h1⟩)
set_option maxRecDepth 100000 in
theorem wx_ln13 : wx_al wx_l02 wx_l05 wx_lt wx_lt (fun q1 q2 q3 q4 => Nat.beq ((fun q1 q2 _ _ => wx_a2 q1 q2) q1 q2 q3 q4).length 4 && (wx_lawA 13 596 (wx_w4 q1 q2 q3 q4) ((fun q1 q2 _ _ => wx_a2 q1 q2) q1 q2 q3 q4) && wx_lawB 13 599 767 (wx_w4 q1 q2 q3 q4) [.inl (0, 2)] [])) = true := by decide +kernel
theorem wx_op13 {l : Launch} (hfl : l.flags = pinnedFlags ++ [noTraceFlag]) : wx_OH l 13 := wx_OH_of (a := fun _ => wx_l02) (b := fun _ => wx_l05) (d := fun _ => wx_lt) (f := fun _ => wx_lt) (as := fun q1 q2 _ _ => wx_a2 q1 q2) wx_hf3 (fun _ _ => by decide +kernel) (fun _ _ => wx_ln13) (fun n hn q1 h1 q2 h2 _ _ _ _ => ⟨n, 0, hn, by decide, wx_H3 hfl hn q1 h1 q2 h2⟩)
set_option maxRecDepth 100000 in
theorem wx_ln14 : wx_al wx_l05 wx_l08 wx_lt wx_lt (fun q1 q2 q3 q4 => Nat.beq ((fun q1 q2 _ _ => wx_a2 q1 q2) q1 q2 q3 q4).length 4 && (wx_lawA 14 636 (wx_w4 q1 q2 q3 q4) ((fun q1 q2 _ _ => wx_a2 q1 q2) q1 q2 q3 q4) && wx_lawB 14 639 767 (wx_w4 q1 q2 q3 q4) [.inl (0, 2)] [])) = true := by decide +kernel
theorem wx_op14 {l : Launch} (hfl : l.flags = pinnedFlags ++ [noTraceFlag]) : wx_OH l 14 := wx_OH_of (a := fun _ => wx_l05) (b := fun _ => wx_l08) (d := fun _ => wx_lt) (f := fun _ => wx_lt) (as := fun q1 q2 _ _ => wx_a2 q1 q2) wx_hf4 (fun _ _ => by decide +kernel) (fun _ _ => wx_ln14) (fun n hn q1 h1 q2 h2 _ _ _ _ => ⟨n, 0, hn, by decide, wx_H4 hfl hn q1 h1 q2 h2⟩)
set_option maxRecDepth 100000 in
theorem wx_ln3 : ((List.range 41).all fun n => wx_al (wx_lm n) wx_lt wx_lt wx_lt (fun q1 q2 q3 q4 => Nat.beq ((fun q1 _ _ _ => wx_a2 q1 (0, 1)) q1 q2 q3 q4).length 4 && (wx_lawA 3 260 (wx_w4 q1 q2 q3 q4) ((fun q1 _ _ _ => wx_a2 q1 (0, 1)) q1 q2 q3 q4) && wx_lawB 3 263 767 (wx_w4 q1 q2 q3 q4) [.inl (0, 2)] []))) = true := by decide +kernel
set_option maxRecDepth 100000 in
theorem wx_v3 : ((List.range 41).all fun n => wx_cv (wx_lm n) wx_lt wx_lt wx_lt) = true := by decide +kernel
theorem wx_op3 {l : Launch} (hfl : l.flags = pinnedFlags ++ [noTraceFlag]) : wx_OH l 3 := wx_OH_of (a := wx_lm) (b := fun _ => wx_lt) (d := fun _ => wx_lt) (f := fun _ => wx_lt) (as := fun q1 _ _ _ => wx_a2 q1 (0, 1)) wx_hf1 (wx_r41 wx_v3) (wx_r41 wx_ln3) (fun n hn q1 h1 _ _ _ _ _ _ => ⟨n, 1, hn, by decide, wx_H1 hfl hn q1 h1⟩)
set_option maxRecDepth 100000 in
theorem wx_ln15 : ((List.range 41).all fun n => wx_al (wx_lm n) wx_l01 wx_lt wx_lt (fun q1 q2 q3 q4 => Nat.beq ((fun q1 q2 _ _ => wx_a2 q1 q2) q1 q2 q3 q4).length 4 && (wx_lawA 15 676 (wx_w4 q1 q2 q3 q4) ((fun q1 q2 _ _ => wx_a2 q1 q2) q1 q2 q3 q4) && wx_lawB 15 679 767 (wx_w4 q1 q2 q3 q4) [.inl (0, 2)] []))) = true := by decide +kernel
set_option maxRecDepth 100000 in
theorem wx_v15 : ((List.range 41).all fun n => wx_cv (wx_lm n) wx_l01 wx_lt wx_lt) = true := by decide +kernel
theorem wx_op15 {l : Launch} (hfl : l.flags = pinnedFlags ++ [noTraceFlag]) : wx_OH l 15 := wx_OH_of (a := wx_lm) (b := fun _ => wx_l01) (d := fun _ => wx_lt) (f := fun _ => wx_lt) (as := fun q1 q2 _ _ => wx_a2 q1 q2) wx_hf5 (wx_r41 wx_v15) (wx_r41 wx_ln15) (fun n hn q1 h1 q2 h2 _ _ _ _ => ⟨n, 0, hn, by decide, wx_H5 hfl hn q1 h1 q2 h2⟩)
set_option maxRecDepth 100000 in
theorem wx_ln16 : wx_al wx_le wx_l02 wx_lt wx_lt (fun q1 q2 q3 q4 => wx_lawA 16 716 (wx_w4 q1 q2 q3 q4) (wx_a2 q1 q2) && (wx_lawB 16 719 734 (wx_w4 q1 q2 q3 q4) [.inl (0, 2)] (wx_r 28 :: [.inl q1, .inl q2]).reverse && wx_lawB 16 737 767 (wx_w4 q1 q2 q3 q4) [.inl rx_top] [])) = true := by decide +kernel
theorem wx_op16 {l : Launch} (hfl : l.flags = pinnedFlags ++ [noTraceFlag]) : wx_OH l 16 := by
  refine ⟨716, rx_mL6, [(0, 10, 13, 21)], _, wx_hf6, fun n hn xs t => ?_⟩
  obtain ⟨q1, m1, q2, m2, q3, m3, q4, m4, hw⟩ := wx_cv_ok (a := wx_le) (b := wx_l02) (d := wx_lt) (f := wx_lt) (by decide +kernel) xs t
  have h := wx_al_ok wx_ln16 m1 m2 m3 m4
  obtain ⟨h1, h2⟩ := rx_and2 h
  obtain ⟨h2, h3⟩ := rx_and2 h2
  obtain ⟨g1, g2⟩ := wx_H6 hfl (n := n) q1 m1 q2 m2
  exact ⟨_, _, n, 0, rfl, hw, hn, by decide, rfl, h1, g1, Or.inr ⟨[.inl q1, .inl q2], 734, _, _, (5, 188, 3, 11), h2, g2, h3, rfl, rfl, rfl, rfl, rfl⟩⟩
theorem wx_ops {l : Launch} (hfl : l.flags = pinnedFlags ++ [noTraceFlag]) : ∀ c0, c0 < 32 → wx_ON c0 ∨ wx_OH l c0 := by
  intro c0 hc
  match c0, hc with
  | 0, _ => exact Or.inl wx_op0
  | 1, _ => exact Or.inl wx_op1
  | 2, _ => exact Or.inr (wx_op2 hfl)
  | 3, _ => exact Or.inr (wx_op3 hfl)
  | 4, _ => exact Or.inl wx_op4
  | 5, _ => exact Or.inr (wx_op5 hfl)
  | 6, _ => exact Or.inl wx_op6
  | 7, _ => exact Or.inl wx_op7
  | 8, _ => exact Or.inl wx_op8
  | 9, _ => exact Or.inl wx_op9
  | 10, _ => exact Or.inl wx_op10
  | 11, _ => exact Or.inl wx_op11
  | 12, _ => exact Or.inl wx_op12
  | 13, _ => exact Or.inr (wx_op13 hfl)
  | 14, _ => exact Or.inr (wx_op14 hfl)
  | 15, _ => exact Or.inr (wx_op15 hfl)
  | 16, _ => exact Or.inr (wx_op16 hfl)
  | 17, _ => exact Or.inl wx_op17
  | 18, _ => exact Or.inl wx_op18
  | 19, _ => exact Or.inl wx_op19
  | 20, _ => exact Or.inl wx_op20
  | 21, _ => exact Or.inl wx_op21
  | 22, _ => exact Or.inl wx_op22
  | 23, _ => exact Or.inl wx_op23
  | 24, _ => exact Or.inl wx_op24
  | 25, _ => exact Or.inl wx_op25
  | 26, _ => exact Or.inl wx_op26
  | 27, _ => exact Or.inl wx_op27
  | 28, _ => exact Or.inl wx_op28
  | 29, _ => exact Or.inl wx_op29
  | 30, _ => exact Or.inl wx_op30
  | 31, _ => exact Or.inl wx_op31
  | _ + 32, hc => omega
