/-! the law: order, and short scripts -/
set_option maxRecDepth 100000 in
theorem rx_law1 : rx_allw 256 = true := by decide +kernel
set_option maxRecDepth 100000 in
theorem rx_short0 : rx_chkL [] = true := by decide +kernel
set_option maxRecDepth 100000 in
theorem rx_short1 : rx_chkL [.inl rx_top] = true := by decide +kernel
set_option maxRecDepth 100000 in
theorem rx_short2 : rx_chkL [.inl rx_top, .inl rx_top] = true := by decide +kernel
set_option maxRecDepth 100000 in
theorem rx_short3 : rx_chkL [.inl rx_top, .inl rx_top, .inl rx_top] = true := by decide +kernel
set_option maxRecDepth 100000 in
theorem rx_short4 : rx_chkL [.inl rx_top, .inl rx_top, .inl rx_top, .inl rx_top] = true := by decide +kernel
theorem rx_all4_app {c : Nat} {a a2 b d e : List (Int × Int)} (h1 : rx_all4 c a b d e = true) (h2 : rx_all4 c a2 b d e = true) : rx_all4 c (a ++ a2) b d e = true := by
  unfold rx_all4 at *
  rw [List.all_append, h1, h2]
  rfl
theorem rx_lop5 {xs : Nat → Int32} (h : rx_is5 5 (xs 0)) : ∃ l, l.length = 5 ∧ rx_five l xs := rx_op4 (rx_all4_app rx_law5_0 (rx_all4_app rx_law5_1 (rx_all4_app rx_law5_2 (rx_all4_app rx_law5_3 (rx_all4_app rx_law5_4 (rx_all4_app rx_law5_5 (rx_all4_app rx_law5_6 (rx_all4_app rx_law5_7 (rx_all4_app rx_law5_8 (rx_all4_app rx_law5_9 (rx_all4_app rx_law5_10 (rx_all4_app rx_law5_11 (rx_all4_app rx_law5_12 rx_law5_13))))))))))))) (by decide +kernel) (by decide +kernel) (by decide +kernel) (by decide +kernel) h
