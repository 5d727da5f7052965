/-! CHECKS -/
set_option maxRecDepth 100000 in
theorem wx_k127 : (wx_e127).all (fun e => wx_chk (wx_or 127 e.2.2.2) rx_ro wx_bx wx_Kst 6000 rx_m127 e) = true := by decide +kernel
set_option maxRecDepth 100000 in
theorem wx_k128 : (wx_e128).all (fun e => wx_chk (wx_or 128 e.2.2.2) rx_ro wx_bx wx_Kst 6000 rx_m128 e) = true := by decide +kernel
set_option maxRecDepth 100000 in
theorem wx_k129 : (wx_e129).all (fun e => wx_chk (wx_or 129 e.2.2.2) rx_ro wx_bx wx_Kst 6000 rx_m129 e) = true := by decide +kernel
set_option maxRecDepth 100000 in
theorem wx_k130 : (wx_e130).all (fun e => wx_chk (wx_or 130 e.2.2.2) rx_ro wx_bx wx_Kst 6000 rx_m130 e) = true := by decide +kernel
set_option maxRecDepth 100000 in
theorem wx_k131 : (wx_e131).all (fun e => wx_chk (wx_or 131 e.2.2.2) rx_ro wx_bx wx_Kst 6000 rx_m131 e) = true := by decide +kernel
set_option maxRecDepth 100000 in
theorem wx_k132 : (wx_e132).all (fun e => wx_chk (wx_or 132 e.2.2.2) rx_ro wx_bx wx_Kst 6000 rx_m132 e) = true := by decide +kernel
set_option maxRecDepth 100000 in
theorem wx_k133 : (wx_e133).all (fun e => wx_chk (wx_or 133 e.2.2.2) rx_ro wx_bx wx_Kst 6000 rx_m133 e) = true := by decide +kernel
set_option maxRecDepth 100000 in
theorem wx_k134 : (wx_e134).all (fun e => wx_chk (wx_or 134 e.2.2.2) rx_ro wx_bx wx_Kst 6000 rx_m134 e) = true := by decide +kernel
set_option maxRecDepth 100000 in
theorem wx_k136 : (wx_e136).all (fun e => wx_chk (wx_or 136 e.2.2.2) rx_ro wx_bx wx_Kst 6000 rx_m136 e) = true := by decide +kernel
set_option maxRecDepth 100000 in
theorem wx_k137 : (wx_e137).all (fun e => wx_chk (wx_or 137 e.2.2.2) rx_ro wx_bx wx_Kst 6000 rx_m137 e) = true := by decide +kernel
set_option maxRecDepth 100000 in
theorem wx_k138 : (wx_e138).all (fun e => wx_chk (wx_or 138 e.2.2.2) rx_ro wx_bx wx_Kst 6000 rx_m138 e) = true := by decide +kernel
set_option maxRecDepth 100000 in
theorem wx_k139 : (wx_e139).all (fun e => wx_chk (wx_or 139 e.2.2.2) rx_ro wx_bx wx_Kst 6000 rx_m139 e) = true := by decide +kernel
set_option maxRecDepth 100000 in
theorem wx_k140 : (wx_e140).all (fun e => wx_chk (wx_or 140 e.2.2.2) rx_ro wx_bx wx_Kst 6000 rx_m140 e) = true := by decide +kernel
set_option maxRecDepth 100000 in
theorem wx_k141 : (wx_e141).all (fun e => wx_chk (wx_or 141 e.2.2.2) rx_ro wx_bx wx_Kst 6000 rx_m141 e) = true := by decide +kernel
set_option maxRecDepth 100000 in
theorem wx_k142 : (wx_e142).all (fun e => wx_chk (wx_or 142 e.2.2.2) rx_ro wx_bx wx_Kst 6000 rx_m142 e) = true := by decide +kernel
set_option maxRecDepth 100000 in
theorem wx_k143 : (wx_e143).all (fun e => wx_chk (wx_or 143 e.2.2.2) rx_ro wx_bx wx_Kst 6000 rx_m143 e) = true := by decide +kernel
set_option maxRecDepth 100000 in
theorem wx_k144 : (wx_e144).all (fun e => wx_chk (wx_or 144 e.2.2.2) rx_ro wx_bx wx_Kst 6000 rx_m144 e) = true := by decide +kernel
set_option maxRecDepth 100000 in
theorem wx_k145 : (wx_e145).all (fun e => wx_chk (wx_or 145 e.2.2.2) rx_ro wx_bx wx_Kst 6000 rx_m145 e) = true := by decide +kernel
set_option maxRecDepth 100000 in
theorem wx_k146 : (wx_e146).all (fun e => wx_chk (wx_or 146 e.2.2.2) rx_ro wx_bx wx_Kst 6000 rx_m146 e) = true := by decide +kernel
set_option maxRecDepth 100000 in
theorem wx_k147 : (wx_e147).all (fun e => wx_chk (wx_or 147 e.2.2.2) rx_ro wx_bx wx_Kst 6000 rx_m147 e) = true := by decide +kernel
set_option maxRecDepth 100000 in
theorem wx_k148 : (wx_e148).all (fun e => wx_chk (wx_or 148 e.2.2.2) rx_ro wx_bx wx_Kst 6000 rx_m148 e) = true := by decide +kernel
set_option maxRecDepth 100000 in
theorem wx_k149 : (wx_e149).all (fun e => wx_chk (wx_or 149 e.2.2.2) rx_ro wx_bx wx_Kst 6000 rx_m149 e) = true := by decide +kernel
set_option maxRecDepth 100000 in
theorem wx_k150 : (wx_e150).all (fun e => wx_chk (wx_or 150 e.2.2.2) rx_ro wx_bx wx_Kst 6000 rx_m150 e) = true := by decide +kernel
set_option maxRecDepth 100000 in
theorem wx_k151 : (wx_e151).all (fun e => wx_chk (wx_or 151 e.2.2.2) rx_ro wx_bx wx_Kst 6000 rx_m151 e) = true := by decide +kernel
set_option maxRecDepth 100000 in
theorem wx_k152 : (wx_e152).all (fun e => wx_chk (wx_or 152 e.2.2.2) rx_ro wx_bx wx_Kst 6000 rx_m152 e) = true := by decide +kernel
set_option maxRecDepth 100000 in
theorem wx_k154 : (wx_e154).all (fun e => wx_chk (wx_or 154 e.2.2.2) rx_ro wx_bx wx_Kst 6000 rx_m154 e) = true := by decide +kernel
set_option maxRecDepth 100000 in
theorem wx_k156 : (wx_e156).all (fun e => wx_chk (wx_or 156 e.2.2.2) rx_ro wx_bx wx_Kst 6000 rx_m156 e) = true := by decide +kernel
set_option maxRecDepth 100000 in
theorem wx_k157 : (wx_e157).all (fun e => wx_chk (wx_or 157 e.2.2.2) rx_ro wx_bx wx_Kst 6000 rx_m157 e) = true := by decide +kernel
set_option maxRecDepth 100000 in
theorem wx_k158 : (wx_e158).all (fun e => wx_chk (wx_or 158 e.2.2.2) rx_ro wx_bx wx_Kst 6000 rx_m158 e) = true := by decide +kernel
set_option maxRecDepth 100000 in
theorem wx_k159 : (wx_e159).all (fun e => wx_chk (wx_or 159 e.2.2.2) rx_ro wx_bx wx_Kst 6000 rx_m159 e) = true := by decide +kernel
set_option maxRecDepth 100000 in
theorem wx_k161 : (wx_e161).all (fun e => wx_chk (wx_or 161 e.2.2.2) rx_ro wx_bx wx_Kst 6000 rx_m161 e) = true := by decide +kernel
set_option maxRecDepth 100000 in
theorem wx_k162 : (wx_e162).all (fun e => wx_chk (wx_or 162 e.2.2.2) rx_ro wx_bx wx_Kst 6000 rx_m162 e) = true := by decide +kernel
set_option maxRecDepth 100000 in
theorem wx_k163 : (wx_e163).all (fun e => wx_chk (wx_or 163 e.2.2.2) rx_ro wx_bx wx_Kst 6000 rx_m163 e) = true := by decide +kernel
set_option maxRecDepth 100000 in
theorem wx_k165 : (wx_e165).all (fun e => wx_chk (wx_or 165 e.2.2.2) rx_ro wx_bx wx_Kst 6000 rx_m165 e) = true := by decide +kernel
set_option maxRecDepth 100000 in
theorem wx_k167 : (wx_e167).all (fun e => wx_chk (wx_or 167 e.2.2.2) rx_ro wx_bx wx_Kst 6000 rx_m167 e) = true := by decide +kernel
set_option maxRecDepth 100000 in
theorem wx_k168 : (wx_e168).all (fun e => wx_chk (wx_or 168 e.2.2.2) rx_ro wx_bx wx_Kst 6000 rx_m168 e) = true := by decide +kernel
set_option maxRecDepth 100000 in
theorem wx_k171 : (wx_e171).all (fun e => wx_chk (wx_or 171 e.2.2.2) rx_ro wx_bx wx_Kst 6000 rx_m171 e) = true := by decide +kernel
set_option maxRecDepth 100000 in
theorem wx_k172 : (wx_e172).all (fun e => wx_chk (wx_or 172 e.2.2.2) rx_ro wx_bx wx_Kst 6000 rx_m172 e) = true := by decide +kernel
set_option maxRecDepth 100000 in
theorem wx_k173 : (wx_e173).all (fun e => wx_chk (wx_or 173 e.2.2.2) rx_ro wx_bx wx_Kst 6000 rx_m173 e) = true := by decide +kernel
set_option maxRecDepth 100000 in
theorem wx_k175 : (wx_e175).all (fun e => wx_chk (wx_or 175 e.2.2.2) rx_ro wx_bx wx_Kst 6000 rx_m175 e) = true := by decide +kernel
set_option maxRecDepth 100000 in
theorem wx_k176 : (wx_e176).all (fun e => wx_chk (wx_or 176 e.2.2.2) rx_ro wx_bx wx_Kst 6000 rx_m176 e) = true := by decide +kernel
set_option maxRecDepth 100000 in
theorem wx_k179 : (wx_e179).all (fun e => wx_chk (wx_or 179 e.2.2.2) rx_ro wx_bx wx_Kst 6000 rx_m179 e) = true := by decide +kernel
set_option maxRecDepth 100000 in
theorem wx_k180 : (wx_e180).all (fun e => wx_chk (wx_or 180 e.2.2.2) rx_ro wx_bx wx_Kst 6000 rx_m180 e) = true := by decide +kernel
set_option maxRecDepth 100000 in
theorem wx_k181 : (wx_e181).all (fun e => wx_chk (wx_or 181 e.2.2.2) rx_ro wx_bx wx_Kst 6000 rx_m181 e) = true := by decide +kernel
set_option maxRecDepth 100000 in
theorem wx_k182 : (wx_e182).all (fun e => wx_chk (wx_or 182 e.2.2.2) rx_ro wx_bx wx_Kst 6000 rx_m182 e) = true := by decide +kernel
