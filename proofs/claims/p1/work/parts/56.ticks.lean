/-! the law: ticks, piece by piece -/
set_option maxRecDepth 100000 in
theorem rx_law5_5 : rx_all4 5 [(20, 20), (21, 21), (22, 22), (23, 23)] [((-2147483648), 2147483647)] [((-2147483648), 2147483647)] [((-2147483648), 2147483647)] = true := by decide +kernel
set_option maxRecDepth 100000 in
theorem rx_law5_6 : rx_all4 5 [(24, 24), (25, 25), (26, 26), (27, 27)] [((-2147483648), 2147483647)] [((-2147483648), 2147483647)] [((-2147483648), 2147483647)] = true := by decide +kernel
set_option maxRecDepth 100000 in
theorem rx_law5_7 : rx_all4 5 [(28, 28), (29, 29), (30, 30), (31, 31)] [((-2147483648), 2147483647)] [((-2147483648), 2147483647)] [((-2147483648), 2147483647)] = true := by decide +kernel
set_option maxRecDepth 100000 in
theorem rx_law5_8 : rx_all4 5 [(32, 32), (33, 33), (34, 34), (35, 35)] [((-2147483648), 2147483647)] [((-2147483648), 2147483647)] [((-2147483648), 2147483647)] = true := by decide +kernel
set_option maxRecDepth 100000 in
theorem rx_law5_9 : rx_all4 5 [(36, 36), (37, 37), (38, 38), (39, 39)] [((-2147483648), 2147483647)] [((-2147483648), 2147483647)] [((-2147483648), 2147483647)] = true := by decide +kernel
