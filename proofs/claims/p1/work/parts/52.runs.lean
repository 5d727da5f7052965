/-! the law, by its calls: [2] -/
set_option maxRecDepth 100000 in
theorem rx_law2 : rx_all4 2 [((-2147483648), (-1)), (0, 2), (3, 2147483647)] [((-2147483648), (-1)), (0, 5), (6, 2147483647)] [((-2147483648), 0), (1, 800), (801, 2147483647)] [((-2147483648), 9), (10, 60), (61, 2147483647)] = true := by decide +kernel
theorem rx_lop2 {xs : Nat → Int32} (h : rx_is5 2 (xs 0)) : ∃ l, l.length = 5 ∧ rx_five l xs := rx_op4 rx_law2 (by decide +kernel) (by decide +kernel) (by decide +kernel) (by decide +kernel) h
