/-! the law: ticks, piece by piece -/
set_option maxRecDepth 100000 in
theorem rx_law5_0 : rx_all4 5 [((-2147483648), 0), (1, 1), (2, 2), (3, 3)] [((-2147483648), 2147483647)] [((-2147483648), 2147483647)] [((-2147483648), 2147483647)] = true := by decide +kernel
set_option maxRecDepth 100000 in
theorem rx_law5_1 : rx_all4 5 [(4, 4), (5, 5), (6, 6), (7, 7)] [((-2147483648), 2147483647)] [((-2147483648), 2147483647)] [((-2147483648), 2147483647)] = true := by decide +kernel
set_option maxRecDepth 100000 in
theorem rx_law5_2 : rx_all4 5 [(8, 8), (9, 9), (10, 10), (11, 11)] [((-2147483648), 2147483647)] [((-2147483648), 2147483647)] [((-2147483648), 2147483647)] = true := by decide +kernel
set_option maxRecDepth 100000 in
theorem rx_law5_3 : rx_all4 5 [(12, 12), (13, 13), (14, 14), (15, 15)] [((-2147483648), 2147483647)] [((-2147483648), 2147483647)] [((-2147483648), 2147483647)] = true := by decide +kernel
set_option maxRecDepth 100000 in
theorem rx_law5_4 : rx_all4 5 [(16, 16), (17, 17), (18, 18), (19, 19)] [((-2147483648), 2147483647)] [((-2147483648), 2147483647)] [((-2147483648), 2147483647)] = true := by decide +kernel
