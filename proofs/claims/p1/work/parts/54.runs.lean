/-! the law, by its calls: [14, 18, 19, 20, 21, 22, 23, 24, 25, 26, 27, 28, 29, 30, 31] -/
set_option maxRecDepth 100000 in
theorem rx_law14 : rx_all4 14 [((-2147483648), (-1)), (0, 0), (1, 1), (2, 2), (3, 3), (4, 4), (5, 5), (6, 2147483647)] [((-2147483648), (-1)), (0, 0), (1, 1), (2, 2), (3, 3), (4, 4), (5, 5), (6, 6), (7, 7), (8, 8), (9, 2147483647)] [((-2147483648), 2147483647)] [((-2147483648), 2147483647)] = true := by decide +kernel
theorem rx_lop14 {xs : Nat → Int32} (h : rx_is5 14 (xs 0)) : ∃ l, l.length = 5 ∧ rx_five l xs := rx_op4 rx_law14 (by decide +kernel) (by decide +kernel) (by decide +kernel) (by decide +kernel) h
set_option maxRecDepth 100000 in
theorem rx_law18 : rx_all4 18 [((-2147483648), 2147483647)] [((-2147483648), 2147483647)] [((-2147483648), 2147483647)] [((-2147483648), 2147483647)] = true := by decide +kernel
theorem rx_lop18 {xs : Nat → Int32} (h : rx_is5 18 (xs 0)) : ∃ l, l.length = 5 ∧ rx_five l xs := rx_op4 rx_law18 (by decide +kernel) (by decide +kernel) (by decide +kernel) (by decide +kernel) h
set_option maxRecDepth 100000 in
theorem rx_law19 : rx_all4 19 [((-2147483648), 2147483647)] [((-2147483648), 2147483647)] [((-2147483648), 2147483647)] [((-2147483648), 2147483647)] = true := by decide +kernel
theorem rx_lop19 {xs : Nat → Int32} (h : rx_is5 19 (xs 0)) : ∃ l, l.length = 5 ∧ rx_five l xs := rx_op4 rx_law19 (by decide +kernel) (by decide +kernel) (by decide +kernel) (by decide +kernel) h
set_option maxRecDepth 100000 in
theorem rx_law20 : rx_all4 20 [((-2147483648), 2147483647)] [((-2147483648), 2147483647)] [((-2147483648), 2147483647)] [((-2147483648), 2147483647)] = true := by decide +kernel
theorem rx_lop20 {xs : Nat → Int32} (h : rx_is5 20 (xs 0)) : ∃ l, l.length = 5 ∧ rx_five l xs := rx_op4 rx_law20 (by decide +kernel) (by decide +kernel) (by decide +kernel) (by decide +kernel) h
set_option maxRecDepth 100000 in
theorem rx_law21 : rx_all4 21 [((-2147483648), 2147483647)] [((-2147483648), 2147483647)] [((-2147483648), 2147483647)] [((-2147483648), 2147483647)] = true := by decide +kernel
theorem rx_lop21 {xs : Nat → Int32} (h : rx_is5 21 (xs 0)) : ∃ l, l.length = 5 ∧ rx_five l xs := rx_op4 rx_law21 (by decide +kernel) (by decide +kernel) (by decide +kernel) (by decide +kernel) h
set_option maxRecDepth 100000 in
theorem rx_law22 : rx_all4 22 [((-2147483648), 2147483647)] [((-2147483648), 2147483647)] [((-2147483648), 2147483647)] [((-2147483648), 2147483647)] = true := by decide +kernel
theorem rx_lop22 {xs : Nat → Int32} (h : rx_is5 22 (xs 0)) : ∃ l, l.length = 5 ∧ rx_five l xs := rx_op4 rx_law22 (by decide +kernel) (by decide +kernel) (by decide +kernel) (by decide +kernel) h
set_option maxRecDepth 100000 in
theorem rx_law23 : rx_all4 23 [((-2147483648), 2147483647)] [((-2147483648), 2147483647)] [((-2147483648), 2147483647)] [((-2147483648), 2147483647)] = true := by decide +kernel
theorem rx_lop23 {xs : Nat → Int32} (h : rx_is5 23 (xs 0)) : ∃ l, l.length = 5 ∧ rx_five l xs := rx_op4 rx_law23 (by decide +kernel) (by decide +kernel) (by decide +kernel) (by decide +kernel) h
set_option maxRecDepth 100000 in
theorem rx_law24 : rx_all4 24 [((-2147483648), 2147483647)] [((-2147483648), 2147483647)] [((-2147483648), 2147483647)] [((-2147483648), 2147483647)] = true := by decide +kernel
theorem rx_lop24 {xs : Nat → Int32} (h : rx_is5 24 (xs 0)) : ∃ l, l.length = 5 ∧ rx_five l xs := rx_op4 rx_law24 (by decide +kernel) (by decide +kernel) (by decide +kernel) (by decide +kernel) h
set_option maxRecDepth 100000 in
theorem rx_law25 : rx_all4 25 [((-2147483648), 2147483647)] [((-2147483648), 2147483647)] [((-2147483648), 2147483647)] [((-2147483648), 2147483647)] = true := by decide +kernel
theorem rx_lop25 {xs : Nat → Int32} (h : rx_is5 25 (xs 0)) : ∃ l, l.length = 5 ∧ rx_five l xs := rx_op4 rx_law25 (by decide +kernel) (by decide +kernel) (by decide +kernel) (by decide +kernel) h
set_option maxRecDepth 100000 in
theorem rx_law26 : rx_all4 26 [((-2147483648), 2147483647)] [((-2147483648), 2147483647)] [((-2147483648), 2147483647)] [((-2147483648), 2147483647)] = true := by decide +kernel
theorem rx_lop26 {xs : Nat → Int32} (h : rx_is5 26 (xs 0)) : ∃ l, l.length = 5 ∧ rx_five l xs := rx_op4 rx_law26 (by decide +kernel) (by decide +kernel) (by decide +kernel) (by decide +kernel) h
set_option maxRecDepth 100000 in
theorem rx_law27 : rx_all4 27 [((-2147483648), 2147483647)] [((-2147483648), 2147483647)] [((-2147483648), 2147483647)] [((-2147483648), 2147483647)] = true := by decide +kernel
theorem rx_lop27 {xs : Nat → Int32} (h : rx_is5 27 (xs 0)) : ∃ l, l.length = 5 ∧ rx_five l xs := rx_op4 rx_law27 (by decide +kernel) (by decide +kernel) (by decide +kernel) (by decide +kernel) h
set_option maxRecDepth 100000 in
theorem rx_law28 : rx_all4 28 [((-2147483648), 2147483647)] [((-2147483648), 2147483647)] [((-2147483648), 2147483647)] [((-2147483648), 2147483647)] = true := by decide +kernel
theorem rx_lop28 {xs : Nat → Int32} (h : rx_is5 28 (xs 0)) : ∃ l, l.length = 5 ∧ rx_five l xs := rx_op4 rx_law28 (by decide +kernel) (by decide +kernel) (by decide +kernel) (by decide +kernel) h
set_option maxRecDepth 100000 in
theorem rx_law29 : rx_all4 29 [((-2147483648), 2147483647)] [((-2147483648), 2147483647)] [((-2147483648), 2147483647)] [((-2147483648), 2147483647)] = true := by decide +kernel
theorem rx_lop29 {xs : Nat → Int32} (h : rx_is5 29 (xs 0)) : ∃ l, l.length = 5 ∧ rx_five l xs := rx_op4 rx_law29 (by decide +kernel) (by decide +kernel) (by decide +kernel) (by decide +kernel) h
set_option maxRecDepth 100000 in
theorem rx_law30 : rx_all4 30 [((-2147483648), 2147483647)] [((-2147483648), 2147483647)] [((-2147483648), 2147483647)] [((-2147483648), 2147483647)] = true := by decide +kernel
theorem rx_lop30 {xs : Nat → Int32} (h : rx_is5 30 (xs 0)) : ∃ l, l.length = 5 ∧ rx_five l xs := rx_op4 rx_law30 (by decide +kernel) (by decide +kernel) (by decide +kernel) (by decide +kernel) h
set_option maxRecDepth 100000 in
theorem rx_law31 : rx_all4 31 [((-2147483648), 2147483647)] [((-2147483648), 2147483647)] [((-2147483648), 2147483647)] [((-2147483648), 2147483647)] = true := by decide +kernel
theorem rx_lop31 {xs : Nat → Int32} (h : rx_is5 31 (xs 0)) : ∃ l, l.length = 5 ∧ rx_five l xs := rx_op4 rx_law31 (by decide +kernel) (by decide +kernel) (by decide +kernel) (by decide +kernel) h
