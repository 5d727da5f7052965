/-! THE LAW's WAYS WITH A HELPER -/
theorem wx_hf0 : wx_HF 200 rx_mL0 [(0, 14, 17, 13), (0, 14, 21, 15)] (16, 1000, 6, 0) := ⟨⟨_, _, rfl⟩, rfl, rfl, rx_cwd0, rx_cst0, rx_bw_t (rx_t1 (List.mem_of_getElem? (i := 0) rfl)) rfl, ⟨by decide, by decide⟩, by decide, by decide⟩
theorem wx_hf1 : wx_HF 288 rx_mL1 [(0, 10, 13, 21)] (16, 1001, 4, 0) := ⟨⟨_, _, rfl⟩, rfl, rfl, rx_cwd1, rx_cst1, rx_bw_t (rx_t1 (List.mem_of_getElem? (i := 0) rfl)) rfl, ⟨by decide, by decide⟩, by decide, by decide⟩
theorem wx_hf2 : wx_HF 343 rx_mL2 [(0, 9, 12, 13)] (16, 1002, 3, 0) := ⟨⟨_, _, rfl⟩, rfl, rfl, rx_cwd2, rx_cst2, rx_bw_t (rx_t1 (List.mem_of_getElem? (i := 0) rfl)) rfl, ⟨by decide, by decide⟩, by decide, by decide⟩
theorem wx_hf3 : wx_HF 624 rx_mL3 [(0, 10, 13, 21)] (16, 1003, 4, 0) := ⟨⟨_, _, rfl⟩, rfl, rfl, rx_cwd3, rx_cst3, rx_bw_t (rx_t1 (List.mem_of_getElem? (i := 0) rfl)) rfl, ⟨by decide, by decide⟩, by decide, by decide⟩
theorem wx_hf4 : wx_HF 664 rx_mL4 [(0, 10, 13, 21)] (16, 1004, 4, 0) := ⟨⟨_, _, rfl⟩, rfl, rfl, rx_cwd4, rx_cst4, rx_bw_t (rx_t1 (List.mem_of_getElem? (i := 0) rfl)) rfl, ⟨by decide, by decide⟩, by decide, by decide⟩
theorem wx_hf5 : wx_HF 704 rx_mL5 [(0, 10, 13, 21)] (16, 1005, 4, 0) := ⟨⟨_, _, rfl⟩, rfl, rfl, rx_cwd5, rx_cst5, rx_bw_t (rx_t1 (List.mem_of_getElem? (i := 0) rfl)) rfl, ⟨by decide, by decide⟩, by decide, by decide⟩
theorem wx_hf6 : wx_HF 744 rx_mL6 [(0, 10, 13, 21)] (16, 1006, 4, 0) := ⟨⟨_, _, rfl⟩, rfl, rfl, rx_cwd6, rx_cst6, rx_bw_t (rx_t1 (List.mem_of_getElem? (i := 0) rfl)) rfl, ⟨by decide, by decide⟩, by decide, by decide⟩
set_option maxRecDepth 100000 in
theorem wx_ln5 : wx_al wx_ltk wx_lt wx_lt wx_lt (fun q1 q2 q3 q4 => Nat.beq ((fun q1 _ _ _ => wx_a1 q1) q1 q2 q3 q4).length 3 && (wx_lawA 5 343 (wx_w4 q1 q2 q3 q4) ((fun q1 _ _ _ => wx_a1 q1) q1 q2 q3 q4) && wx_lawB 5 346 795 (wx_w4 q1 q2 q3 q4) [.inl (0, 2)] [])) = true := by decide +kernel
theorem wx_op5 {l : Launch} (hfl : l.flags = pinnedFlags ++ [noTraceFlag]) : wx_OH l 5 := wx_OH_of (a := fun _ => wx_ltk) (b := fun _ => wx_lt) (d := fun _ => wx_lt) (f := fun _ => wx_lt) (as := fun q1 _ _ _ => wx_a1 q1) wx_hf2 (fun _ _ => by decide +kernel) (fun _ _ => wx_ln5) (fun n hn q1 h1 _ _ _ _ _ _ => ⟨n, 295000, hn, by decide, wx_H2 hfl hn q1 h1⟩)
set_option maxRecDepth 100000 in
theorem wx_ln13 : wx_al wx_l02 wx_l05 wx_lt wx_lt (fun q1 q2 q3 q4 => Nat.beq ((fun q1 q2 _ _ => wx_a2 q1 q2) q1 q2 q3 q4).length 4 && (wx_lawA 13 624 (wx_w4 q1 q2 q3 q4) ((fun q1 q2 _ _ => wx_a2 q1 q2) q1 q2 q3 q4) && wx_lawB 13 627 795 (wx_w4 q1 q2 q3 q4) [.inl (0, 2)] [])) = true := by decide +kernel
theorem wx_op13 {l : Launch} (hfl : l.flags = pinnedFlags ++ [noTraceFlag]) : wx_OH l 13 := wx_OH_of (a := fun _ => wx_l02) (b := fun _ => wx_l05) (d := fun _ => wx_lt) (f := fun _ => wx_lt) (as := fun q1 q2 _ _ => wx_a2 q1 q2) wx_hf3 (fun _ _ => by decide +kernel) (fun _ _ => wx_ln13) (fun n hn q1 h1 q2 h2 _ _ _ _ => ⟨n, 0, hn, by decide, wx_H3 hfl hn q1 h1 q2 h2⟩)
set_option maxRecDepth 100000 in
theorem wx_ln14 : wx_al wx_l05 wx_l08 wx_lt wx_lt (fun q1 q2 q3 q4 => Nat.beq ((fun q1 q2 _ _ => wx_a2 q1 q2) q1 q2 q3 q4).length 4 && (wx_lawA 14 664 (wx_w4 q1 q2 q3 q4) ((fun q1 q2 _ _ => wx_a2 q1 q2) q1 q2 q3 q4) && wx_lawB 14 667 795 (wx_w4 q1 q2 q3 q4) [.inl (0, 2)] [])) = true := by decide +kernel
theorem wx_op14 {l : Launch} (hfl : l.flags = pinnedFlags ++ [noTraceFlag]) : wx_OH l 14 := wx_OH_of (a := fun _ => wx_l05) (b := fun _ => wx_l08) (d := fun _ => wx_lt) (f := fun _ => wx_lt) (as := fun q1 q2 _ _ => wx_a2 q1 q2) wx_hf4 (fun _ _ => by decide +kernel) (fun _ _ => wx_ln14) (fun n hn q1 h1 q2 h2 _ _ _ _ => ⟨n, 0, hn, by decide, wx_H4 hfl hn q1 h1 q2 h2⟩)
set_option maxRecDepth 100000 in
theorem wx_ln3 : ((List.range 41).all fun n => wx_al (wx_lm n) wx_lt wx_lt wx_lt (fun q1 q2 q3 q4 => Nat.beq ((fun q1 _ _ _ => wx_a2 q1 (0, 1)) q1 q2 q3 q4).length 4 && (wx_lawA 3 288 (wx_w4 q1 q2 q3 q4) ((fun q1 _ _ _ => wx_a2 q1 (0, 1)) q1 q2 q3 q4) && wx_lawB 3 291 795 (wx_w4 q1 q2 q3 q4) [.inl (0, 2)] []))) = true := by decide +kernel
set_option maxRecDepth 100000 in
theorem wx_v3 : ((List.range 41).all fun n => wx_cv (wx_lm n) wx_lt wx_lt wx_lt) = true := by decide +kernel
theorem wx_op3 {l : Launch} (hfl : l.flags = pinnedFlags ++ [noTraceFlag]) : wx_OH l 3 := wx_OH_of (a := wx_lm) (b := fun _ => wx_lt) (d := fun _ => wx_lt) (f := fun _ => wx_lt) (as := fun q1 _ _ _ => wx_a2 q1 (0, 1)) wx_hf1 (wx_r41 wx_v3) (wx_r41 wx_ln3) (fun n hn q1 h1 _ _ _ _ _ _ => ⟨n, 1, hn, by decide, wx_H1 hfl hn q1 h1⟩)
set_option maxRecDepth 100000 in
theorem wx_ln15 : ((List.range 41).all fun n => wx_al (wx_lm n) wx_l01 wx_lt wx_lt (fun q1 q2 q3 q4 => Nat.beq ((fun q1 q2 _ _ => wx_a2 q1 q2) q1 q2 q3 q4).length 4 && (wx_lawA 15 704 (wx_w4 q1 q2 q3 q4) ((fun q1 q2 _ _ => wx_a2 q1 q2) q1 q2 q3 q4) && wx_lawB 15 707 795 (wx_w4 q1 q2 q3 q4) [.inl (0, 2)] []))) = true := by decide +kernel
set_option maxRecDepth 100000 in
theorem wx_v15 : ((List.range 41).all fun n => wx_cv (wx_lm n) wx_l01 wx_lt wx_lt) = true := by decide +kernel
theorem wx_op15 {l : Launch} (hfl : l.flags = pinnedFlags ++ [noTraceFlag]) : wx_OH l 15 := wx_OH_of (a := wx_lm) (b := fun _ => wx_l01) (d := fun _ => wx_lt) (f := fun _ => wx_lt) (as := fun q1 q2 _ _ => wx_a2 q1 q2) wx_hf5 (wx_r41 wx_v15) (wx_r41 wx_ln15) (fun n hn q1 h1 q2 h2 _ _ _ _ => ⟨n, 0, hn, by decide, wx_H5 hfl hn q1 h1 q2 h2⟩)
set_option maxRecDepth 100000 in
theorem wx_ln16 : wx_al wx_le wx_l02 wx_lt wx_lt (fun q1 q2 q3 q4 => wx_lawA 16 744 (wx_w4 q1 q2 q3 q4) (wx_a2 q1 q2) && (wx_lawB 16 747 762 (wx_w4 q1 q2 q3 q4) [.inl (0, 2)] (wx_r 28 :: [.inl q1, .inl q2]).reverse && wx_lawB 16 765 795 (wx_w4 q1 q2 q3 q4) [.inl rx_top] [])) = true := by decide +kernel
theorem wx_op16 {l : Launch} (hfl : l.flags = pinnedFlags ++ [noTraceFlag]) : wx_OH l 16 := by
  refine ⟨744, rx_mL6, [(0, 10, 13, 21)], _, wx_hf6, fun n hn xs t => ?_⟩
  obtain ⟨q1, m1, q2, m2, q3, m3, q4, m4, hw⟩ := wx_cv_ok (a := wx_le) (b := wx_l02) (d := wx_lt) (f := wx_lt) (by decide +kernel) xs t
  have h := wx_al_ok wx_ln16 m1 m2 m3 m4
  obtain ⟨h1, h2⟩ := rx_and2 h
  obtain ⟨h2, h3⟩ := rx_and2 h2
  obtain ⟨g1, g2⟩ := wx_H6 hfl (n := n) q1 m1 q2 m2
  exact ⟨_, _, n, 0, rfl, hw, hn, by decide, rfl, h1, g1, Or.inr ⟨[.inl q1, .inl q2], 762, _, _, (5, 189, 3, 11), h2, g2, h3, rfl, rfl, rfl, rfl, rfl⟩⟩
