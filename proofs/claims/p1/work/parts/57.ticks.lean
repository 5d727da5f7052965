/-! the law: ticks, piece by piece -/
set_option maxRecDepth 100000 in
theorem rx_law5_10 : rx_all4 5 [(40, 40), (41, 41), (42, 42), (43, 43)] [((-2147483648), 2147483647)] [((-2147483648), 2147483647)] [((-2147483648), 2147483647)] = true := by decide +kernel
set_option maxRecDepth 100000 in
theorem rx_law5_11 : rx_all4 5 [(44, 44), (45, 45), (46, 46), (47, 47)] [((-2147483648), 2147483647)] [((-2147483648), 2147483647)] [((-2147483648), 2147483647)] = true := by decide +kernel
set_option maxRecDepth 100000 in
theorem rx_law5_12 : rx_all4 5 [(48, 48), (49, 49), (50, 50), (51, 1000)] [((-2147483648), 2147483647)] [((-2147483648), 2147483647)] [((-2147483648), 2147483647)] = true := by decide +kernel
set_option maxRecDepth 100000 in
theorem rx_law5_13 : rx_all4 5 [(1001, 2147483647)] [((-2147483648), 2147483647)] [((-2147483648), 2147483647)] [((-2147483648), 2147483647)] = true := by decide +kernel
