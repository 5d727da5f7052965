/-! the law, by its calls: [0, 3, 4, 6, 7, 8, 11, 12, 15, 16, 17] -/
set_option maxRecDepth 100000 in
theorem rx_law0 : rx_all4 0 [((-2147483648), (-1)), (0, 0), (1, 1), (2, 2), (3, 3), (4, 2147483647)] [((-2147483648), 2147483647)] [((-2147483648), 2147483647)] [((-2147483648), 2147483647)] = true := by decide +kernel
theorem rx_lop0 {xs : Nat → Int32} (h : rx_is5 0 (xs 0)) : ∃ l, l.length = 5 ∧ rx_five l xs := rx_op4 rx_law0 (by decide +kernel) (by decide +kernel) (by decide +kernel) (by decide +kernel) h
set_option maxRecDepth 100000 in
theorem rx_law3 : rx_all4 3 [((-2147483648), (-1)), (0, 2147483647)] [((-2147483648), (-1)), (0, 0), (1, 2147483647)] [((-2147483648), 2147483647)] [((-2147483648), 2147483647)] = true := by decide +kernel
theorem rx_lop3 {xs : Nat → Int32} (h : rx_is5 3 (xs 0)) : ∃ l, l.length = 5 ∧ rx_five l xs := rx_op4 rx_law3 (by decide +kernel) (by decide +kernel) (by decide +kernel) (by decide +kernel) h
set_option maxRecDepth 100000 in
theorem rx_law4 : rx_all4 4 [((-2147483648), 2147483647)] [((-2147483648), 2147483647)] [((-2147483648), 2147483647)] [((-2147483648), 2147483647)] = true := by decide +kernel
theorem rx_lop4 {xs : Nat → Int32} (h : rx_is5 4 (xs 0)) : ∃ l, l.length = 5 ∧ rx_five l xs := rx_op4 rx_law4 (by decide +kernel) (by decide +kernel) (by decide +kernel) (by decide +kernel) h
set_option maxRecDepth 100000 in
theorem rx_law6 : rx_all4 6 [((-2147483648), (-1)), (0, 0), (1, 1), (2, 2), (3, 3), (4, 4), (5, 2147483647)] [((-2147483648), (-1)), (0, 0), (1, 4), (5, 2147483647)] [((-2147483648), 2147483647)] [((-2147483648), 2147483647)] = true := by decide +kernel
theorem rx_lop6 {xs : Nat → Int32} (h : rx_is5 6 (xs 0)) : ∃ l, l.length = 5 ∧ rx_five l xs := rx_op4 rx_law6 (by decide +kernel) (by decide +kernel) (by decide +kernel) (by decide +kernel) h
set_option maxRecDepth 100000 in
theorem rx_law7 : rx_all4 7 [((-2147483648), (-1)), (0, 0), (1, 1), (2, 2), (3, 3), (4, 4), (5, 2147483647)] [((-2147483648), 2147483647)] [((-2147483648), 2147483647)] [((-2147483648), 2147483647)] = true := by decide +kernel
theorem rx_lop7 {xs : Nat → Int32} (h : rx_is5 7 (xs 0)) : ∃ l, l.length = 5 ∧ rx_five l xs := rx_op4 rx_law7 (by decide +kernel) (by decide +kernel) (by decide +kernel) (by decide +kernel) h
set_option maxRecDepth 100000 in
theorem rx_law8 : rx_all4 8 [((-2147483648), (-1)), (0, 0), (1, 1), (2, 2), (3, 3), (4, 4), (5, 5), (6, 2147483647)] [((-2147483648), 2147483647)] [((-2147483648), 2147483647)] [((-2147483648), 2147483647)] = true := by decide +kernel
theorem rx_lop8 {xs : Nat → Int32} (h : rx_is5 8 (xs 0)) : ∃ l, l.length = 5 ∧ rx_five l xs := rx_op4 rx_law8 (by decide +kernel) (by decide +kernel) (by decide +kernel) (by decide +kernel) h
set_option maxRecDepth 100000 in
theorem rx_law11 : rx_all4 11 [((-2147483648), 2147483647)] [((-2147483648), 2147483647)] [((-2147483648), 2147483647)] [((-2147483648), 2147483647)] = true := by decide +kernel
theorem rx_lop11 {xs : Nat → Int32} (h : rx_is5 11 (xs 0)) : ∃ l, l.length = 5 ∧ rx_five l xs := rx_op4 rx_law11 (by decide +kernel) (by decide +kernel) (by decide +kernel) (by decide +kernel) h
set_option maxRecDepth 100000 in
theorem rx_law12 : rx_all4 12 [((-2147483648), (-1)), (0, 0), (1, 2147483647)] [((-2147483648), 2147483647)] [((-2147483648), 2147483647)] [((-2147483648), 2147483647)] = true := by decide +kernel
theorem rx_lop12 {xs : Nat → Int32} (h : rx_is5 12 (xs 0)) : ∃ l, l.length = 5 ∧ rx_five l xs := rx_op4 rx_law12 (by decide +kernel) (by decide +kernel) (by decide +kernel) (by decide +kernel) h
set_option maxRecDepth 100000 in
theorem rx_law15 : rx_all4 15 [((-2147483648), (-1)), (0, 2147483647)] [((-2147483648), 2147483647)] [((-2147483648), 2147483647)] [((-2147483648), 2147483647)] = true := by decide +kernel
theorem rx_lop15 {xs : Nat → Int32} (h : rx_is5 15 (xs 0)) : ∃ l, l.length = 5 ∧ rx_five l xs := rx_op4 rx_law15 (by decide +kernel) (by decide +kernel) (by decide +kernel) (by decide +kernel) h
set_option maxRecDepth 100000 in
theorem rx_law16 : rx_all4 16 [((-2147483648), (-1)), (0, 31), (32, 2147483647)] [((-2147483648), 2147483647)] [((-2147483648), 2147483647)] [((-2147483648), 2147483647)] = true := by decide +kernel
theorem rx_lop16 {xs : Nat → Int32} (h : rx_is5 16 (xs 0)) : ∃ l, l.length = 5 ∧ rx_five l xs := rx_op4 rx_law16 (by decide +kernel) (by decide +kernel) (by decide +kernel) (by decide +kernel) h
set_option maxRecDepth 100000 in
theorem rx_law17 : rx_all4 17 [((-2147483648), (-1)), (0, 0), (1, 1), (2, 2), (3, 3), (4, 4), (5, 5), (6, 6), (7, 7), (8, 8), (9, 2147483647)] [((-2147483648), 2147483647)] [((-2147483648), 2147483647)] [((-2147483648), 2147483647)] = true := by decide +kernel
theorem rx_lop17 {xs : Nat → Int32} (h : rx_is5 17 (xs 0)) : ∃ l, l.length = 5 ∧ rx_five l xs := rx_op4 rx_law17 (by decide +kernel) (by decide +kernel) (by decide +kernel) (by decide +kernel) h
