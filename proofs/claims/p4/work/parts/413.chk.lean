/-! CHECKS -/
set_option maxRecDepth 100000 in
theorem wx_k70 : (wx_e70).all (fun e => wx_chk (wx_or 70 e.2.2.2) rx_ro wx_bx wx_Kst 6000 rx_m70 e) = true := by decide +kernel
set_option maxRecDepth 100000 in
theorem wx_k71 : (wx_e71).all (fun e => wx_chk (wx_or 71 e.2.2.2) rx_ro wx_bx wx_Kst 6000 rx_m71 e) = true := by decide +kernel
set_option maxRecDepth 100000 in
theorem wx_k72 : (wx_e72).all (fun e => wx_chk (wx_or 72 e.2.2.2) rx_ro wx_bx wx_Kst 6000 rx_m72 e) = true := by decide +kernel
set_option maxRecDepth 100000 in
theorem wx_k73 : (wx_e73).all (fun e => wx_chk (wx_or 73 e.2.2.2) rx_ro wx_bx wx_Kst 6000 rx_m73 e) = true := by decide +kernel
set_option maxRecDepth 100000 in
theorem wx_k75 : (wx_e75).all (fun e => wx_chk (wx_or 75 e.2.2.2) rx_ro wx_bx wx_Kst 6000 rx_m75 e) = true := by decide +kernel
set_option maxRecDepth 100000 in
theorem wx_k76 : (wx_e76).all (fun e => wx_chk (wx_or 76 e.2.2.2) rx_ro wx_bx wx_Kst 6000 rx_m76 e) = true := by decide +kernel
set_option maxRecDepth 100000 in
theorem wx_k77 : (wx_e77).all (fun e => wx_chk (wx_or 77 e.2.2.2) rx_ro wx_bx wx_Kst 6000 rx_m77 e) = true := by decide +kernel
set_option maxRecDepth 100000 in
theorem wx_k78 : (wx_e78).all (fun e => wx_chk (wx_or 78 e.2.2.2) rx_ro wx_bx wx_Kst 6000 rx_m78 e) = true := by decide +kernel
set_option maxRecDepth 100000 in
theorem wx_k79 : (wx_e79).all (fun e => wx_chk (wx_or 79 e.2.2.2) rx_ro wx_bx wx_Kst 6000 rx_m79 e) = true := by decide +kernel
set_option maxRecDepth 100000 in
theorem wx_k80 : (wx_e80).all (fun e => wx_chk (wx_or 80 e.2.2.2) rx_ro wx_bx wx_Kst 6000 rx_m80 e) = true := by decide +kernel
set_option maxRecDepth 100000 in
theorem wx_k81 : (wx_e81).all (fun e => wx_chk (wx_or 81 e.2.2.2) rx_ro wx_bx wx_Kst 6000 rx_m81 e) = true := by decide +kernel
set_option maxRecDepth 100000 in
theorem wx_k82 : (wx_e82).all (fun e => wx_chk (wx_or 82 e.2.2.2) rx_ro wx_bx wx_Kst 6000 rx_m82 e) = true := by decide +kernel
set_option maxRecDepth 100000 in
theorem wx_k83 : (wx_e83).all (fun e => wx_chk (wx_or 83 e.2.2.2) rx_ro wx_bx wx_Kst 6000 rx_m83 e) = true := by decide +kernel
set_option maxRecDepth 100000 in
theorem wx_k84 : (wx_e84).all (fun e => wx_chk (wx_or 84 e.2.2.2) rx_ro wx_bx wx_Kst 6000 rx_m84 e) = true := by decide +kernel
set_option maxRecDepth 100000 in
theorem wx_k85 : (wx_e85).all (fun e => wx_chk (wx_or 85 e.2.2.2) rx_ro wx_bx wx_Kst 6000 rx_m85 e) = true := by decide +kernel
set_option maxRecDepth 100000 in
theorem wx_k86 : (wx_e86).all (fun e => wx_chk (wx_or 86 e.2.2.2) rx_ro wx_bx wx_Kst 6000 rx_m86 e) = true := by decide +kernel
set_option maxRecDepth 100000 in
theorem wx_k87 : (wx_e87).all (fun e => wx_chk (wx_or 87 e.2.2.2) rx_ro wx_bx wx_Kst 6000 rx_m87 e) = true := by decide +kernel
set_option maxRecDepth 100000 in
theorem wx_k88 : (wx_e88).all (fun e => wx_chk (wx_or 88 e.2.2.2) rx_ro wx_bx wx_Kst 6000 rx_m88 e) = true := by decide +kernel
set_option maxRecDepth 100000 in
theorem wx_k92 : (wx_e92).all (fun e => wx_chk (wx_or 92 e.2.2.2) rx_ro wx_bx wx_Kst 6000 rx_m92 e) = true := by decide +kernel
set_option maxRecDepth 100000 in
theorem wx_k93 : (wx_e93).all (fun e => wx_chk (wx_or 93 e.2.2.2) rx_ro wx_bx wx_Kst 6000 rx_m93 e) = true := by decide +kernel
set_option maxRecDepth 100000 in
theorem wx_k94 : (wx_e94).all (fun e => wx_chk (wx_or 94 e.2.2.2) rx_ro wx_bx wx_Kst 6000 rx_m94 e) = true := by decide +kernel
set_option maxRecDepth 100000 in
theorem wx_k95 : (wx_e95).all (fun e => wx_chk (wx_or 95 e.2.2.2) rx_ro wx_bx wx_Kst 6000 rx_m95 e) = true := by decide +kernel
set_option maxRecDepth 100000 in
theorem wx_k96 : (wx_e96).all (fun e => wx_chk (wx_or 96 e.2.2.2) rx_ro wx_bx wx_Kst 6000 rx_m96 e) = true := by decide +kernel
set_option maxRecDepth 100000 in
theorem wx_k97 : (wx_e97).all (fun e => wx_chk (wx_or 97 e.2.2.2) rx_ro wx_bx wx_Kst 6000 rx_m97 e) = true := by decide +kernel
set_option maxRecDepth 100000 in
theorem wx_k98 : (wx_e98).all (fun e => wx_chk (wx_or 98 e.2.2.2) rx_ro wx_bx wx_Kst 6000 rx_m98 e) = true := by decide +kernel
set_option maxRecDepth 100000 in
theorem wx_k99 : (wx_e99).all (fun e => wx_chk (wx_or 99 e.2.2.2) rx_ro wx_bx wx_Kst 6000 rx_m99 e) = true := by decide +kernel
set_option maxRecDepth 100000 in
theorem wx_k100 : (wx_e100).all (fun e => wx_chk (wx_or 100 e.2.2.2) rx_ro wx_bx wx_Kst 6000 rx_m100 e) = true := by decide +kernel
set_option maxRecDepth 100000 in
theorem wx_k102 : (wx_e102).all (fun e => wx_chk (wx_or 102 e.2.2.2) rx_ro wx_bx wx_Kst 6000 rx_m102 e) = true := by decide +kernel
set_option maxRecDepth 100000 in
theorem wx_k103 : (wx_e103).all (fun e => wx_chk (wx_or 103 e.2.2.2) rx_ro wx_bx wx_Kst 6000 rx_m103 e) = true := by decide +kernel
set_option maxRecDepth 100000 in
theorem wx_k104 : (wx_e104).all (fun e => wx_chk (wx_or 104 e.2.2.2) rx_ro wx_bx wx_Kst 6000 rx_m104 e) = true := by decide +kernel
set_option maxRecDepth 100000 in
theorem wx_k105 : (wx_e105).all (fun e => wx_chk (wx_or 105 e.2.2.2) rx_ro wx_bx wx_Kst 6000 rx_m105 e) = true := by decide +kernel
set_option maxRecDepth 100000 in
theorem wx_k106 : (wx_e106).all (fun e => wx_chk (wx_or 106 e.2.2.2) rx_ro wx_bx wx_Kst 6000 rx_m106 e) = true := by decide +kernel
set_option maxRecDepth 100000 in
theorem wx_k107 : (wx_e107).all (fun e => wx_chk (wx_or 107 e.2.2.2) rx_ro wx_bx wx_Kst 6000 rx_m107 e) = true := by decide +kernel
set_option maxRecDepth 100000 in
theorem wx_k108 : (wx_e108).all (fun e => wx_chk (wx_or 108 e.2.2.2) rx_ro wx_bx wx_Kst 6000 rx_m108 e) = true := by decide +kernel
set_option maxRecDepth 100000 in
theorem wx_k109 : (wx_e109).all (fun e => wx_chk (wx_or 109 e.2.2.2) rx_ro wx_bx wx_Kst 6000 rx_m109 e) = true := by decide +kernel
set_option maxRecDepth 100000 in
theorem wx_k110 : (wx_e110).all (fun e => wx_chk (wx_or 110 e.2.2.2) rx_ro wx_bx wx_Kst 6000 rx_m110 e) = true := by decide +kernel
set_option maxRecDepth 100000 in
theorem wx_k111 : (wx_e111).all (fun e => wx_chk (wx_or 111 e.2.2.2) rx_ro wx_bx wx_Kst 6000 rx_m111 e) = true := by decide +kernel
set_option maxRecDepth 100000 in
theorem wx_k112 : (wx_e112).all (fun e => wx_chk (wx_or 112 e.2.2.2) rx_ro wx_bx wx_Kst 6000 rx_m112 e) = true := by decide +kernel
set_option maxRecDepth 100000 in
theorem wx_k113 : (wx_e113).all (fun e => wx_chk (wx_or 113 e.2.2.2) rx_ro wx_bx wx_Kst 6000 rx_m113 e) = true := by decide +kernel
set_option maxRecDepth 100000 in
theorem wx_k114 : (wx_e114).all (fun e => wx_chk (wx_or 114 e.2.2.2) rx_ro wx_bx wx_Kst 6000 rx_m114 e) = true := by decide +kernel
set_option maxRecDepth 100000 in
theorem wx_k115 : (wx_e115).all (fun e => wx_chk (wx_or 115 e.2.2.2) rx_ro wx_bx wx_Kst 6000 rx_m115 e) = true := by decide +kernel
set_option maxRecDepth 100000 in
theorem wx_k116 : (wx_e116).all (fun e => wx_chk (wx_or 116 e.2.2.2) rx_ro wx_bx wx_Kst 6000 rx_m116 e) = true := by decide +kernel
set_option maxRecDepth 100000 in
theorem wx_k117 : (wx_e117).all (fun e => wx_chk (wx_or 117 e.2.2.2) rx_ro wx_bx wx_Kst 6000 rx_m117 e) = true := by decide +kernel
set_option maxRecDepth 100000 in
theorem wx_k125 : (wx_e125).all (fun e => wx_chk (wx_or 125 e.2.2.2) rx_ro wx_bx wx_Kst 6000 rx_m125 e) = true := by decide +kernel
set_option maxRecDepth 100000 in
theorem wx_k126 : (wx_e126).all (fun e => wx_chk (wx_or 126 e.2.2.2) rx_ro wx_bx wx_Kst 6000 rx_m126 e) = true := by decide +kernel
