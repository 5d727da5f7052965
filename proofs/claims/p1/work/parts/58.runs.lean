/-! the law: order, and short scripts -/
theorem rx_law1 : rx_allw 256 = true := by
  refine rx_allw_of fun w hw => ?_
  by_cases h0 : w < 16
  · exact rx_rng_ok rx_ord0 (by omega) (by omega)
  by_cases h1 : w < 32
  · exact rx_rng_ok rx_ord1 (by omega) (by omega)
  by_cases h2 : w < 48
  · exact rx_rng_ok rx_ord2 (by omega) (by omega)
  by_cases h3 : w < 64
  · exact rx_rng_ok rx_ord3 (by omega) (by omega)
  by_cases h4 : w < 80
  · exact rx_rng_ok rx_ord4 (by omega) (by omega)
  by_cases h5 : w < 96
  · exact rx_rng_ok rx_ord5 (by omega) (by omega)
  by_cases h6 : w < 112
  · exact rx_rng_ok rx_ord6 (by omega) (by omega)
  by_cases h7 : w < 128
  · exact rx_rng_ok rx_ord7 (by omega) (by omega)
  by_cases h8 : w < 144
  · exact rx_rng_ok rx_ord8 (by omega) (by omega)
  by_cases h9 : w < 160
  · exact rx_rng_ok rx_ord9 (by omega) (by omega)
  by_cases h10 : w < 176
  · exact rx_rng_ok rx_ord10 (by omega) (by omega)
  by_cases h11 : w < 192
  · exact rx_rng_ok rx_ord11 (by omega) (by omega)
  by_cases h12 : w < 208
  · exact rx_rng_ok rx_ord12 (by omega) (by omega)
  by_cases h13 : w < 224
  · exact rx_rng_ok rx_ord13 (by omega) (by omega)
  by_cases h14 : w < 240
  · exact rx_rng_ok rx_ord14 (by omega) (by omega)
  exact rx_rng_ok rx_ord15 (by omega) (by omega)
set_option maxRecDepth 100000 in
theorem rx_short0 : rx_chkL [] = true := by decide +kernel
set_option maxRecDepth 100000 in
theorem rx_short1 : rx_chkL [.inl rx_top] = true := by decide +kernel
set_option maxRecDepth 100000 in
theorem rx_short2 : rx_chkL [.inl rx_top, .inl rx_top] = true := by decide +kernel
set_option maxRecDepth 100000 in
theorem rx_short3 : rx_chkL [.inl rx_top, .inl rx_top, .inl rx_top] = true := by decide +kernel
set_option maxRecDepth 100000 in
theorem rx_short4 : rx_chkL [.inl rx_top, .inl rx_top, .inl rx_top, .inl rx_top] = true := by decide +kernel
theorem rx_all4_app {c : Nat} {a a2 b d e : List (Int × Int)} (h1 : rx_all4 c a b d e = true) (h2 : rx_all4 c a2 b d e = true) : rx_all4 c (a ++ a2) b d e = true := by
  unfold rx_all4 at *
  rw [List.all_append, h1, h2]
  rfl
theorem rx_lop5 {xs : Nat → Int32} (h : rx_is5 5 (xs 0)) : ∃ l, l.length = 5 ∧ rx_five l xs := rx_op4 (rx_all4_app rx_law5_0 (rx_all4_app rx_law5_1 (rx_all4_app rx_law5_2 (rx_all4_app rx_law5_3 (rx_all4_app rx_law5_4 (rx_all4_app rx_law5_5 (rx_all4_app rx_law5_6 (rx_all4_app rx_law5_7 (rx_all4_app rx_law5_8 (rx_all4_app rx_law5_9 (rx_all4_app rx_law5_10 (rx_all4_app rx_law5_11 (rx_all4_app rx_law5_12 rx_law5_13))))))))))))) (by decide +kernel) (by decide +kernel) (by decide +kernel) (by decide +kernel) h
