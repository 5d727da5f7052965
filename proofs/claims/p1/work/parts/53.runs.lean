/-! the law, by its calls: [9, 10, 13] -/
set_option maxRecDepth 100000 in
theorem rx_law9 : rx_all4 9 [((-2147483648), (-1)), (0, 0), (1, 1), (2, 2), (3, 3), (4, 4), (5, 5), (6, 6), (7, 7), (8, 8), (9, 2147483647)] [((-2147483648), (-1)), (0, 0), (1, 2147483647)] [((-2147483648), 2147483647)] [((-2147483648), 2147483647)] = true := by decide +kernel
theorem rx_lop9 {xs : Nat → Int32} (h : rx_is5 9 (xs 0)) : ∃ l, l.length = 5 ∧ rx_five l xs := rx_op4 rx_law9 (by decide +kernel) (by decide +kernel) (by decide +kernel) (by decide +kernel) h
set_option maxRecDepth 100000 in
theorem rx_law10 : rx_all4 10 [((-2147483648), (-1)), (0, 0), (1, 2147483647)] [((-2147483648), 54999), (55000, 65000), (65001, 2147483647)] [((-2147483648), 2147483647)] [((-2147483648), 2147483647)] = true := by decide +kernel
theorem rx_lop10 {xs : Nat → Int32} (h : rx_is5 10 (xs 0)) : ∃ l, l.length = 5 ∧ rx_five l xs := rx_op4 rx_law10 (by decide +kernel) (by decide +kernel) (by decide +kernel) (by decide +kernel) h
set_option maxRecDepth 100000 in
theorem rx_law13 : rx_all4 13 [((-2147483648), (-1)), (0, 0), (1, 1), (2, 2), (3, 2147483647)] [((-2147483648), (-1)), (0, 0), (1, 1), (2, 2), (3, 3), (4, 4), (5, 5), (6, 2147483647)] [((-2147483648), 2147483647)] [((-2147483648), 2147483647)] = true := by decide +kernel
theorem rx_lop13 {xs : Nat → Int32} (h : rx_is5 13 (xs 0)) : ∃ l, l.length = 5 ∧ rx_five l xs := rx_op4 rx_law13 (by decide +kernel) (by decide +kernel) (by decide +kernel) (by decide +kernel) h
