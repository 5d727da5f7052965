/-! CHECKS -/
noncomputable def wx_or (j : Nat) (pu : Bool) : wx_Orc := bif pu then wx_P rx_xM rx_ro wx_T j wx_d0 wx_iP 600 1 else wx_A rx_xM rx_ro wx_T j wx_d0 wx_iP wx_n0 wx_Kst 600 0
noncomputable def wx_on (t : rx_H) (j : Nat) (pu : Bool) : wx_Orc := bif pu then wx_P rx_xM rx_ro wx_T j wx_d0 wx_iP 600 3 else wx_A rx_xM rx_ro wx_T j wx_d0 wx_iP wx_iN t 600 3
set_option maxRecDepth 100000 in
theorem wx_k11 : (wx_e11).all (fun e => wx_chk (wx_or 11 e.2.2.2) rx_ro wx_bx wx_Kst 6000 rx_m11 e) = true := by decide +kernel
set_option maxRecDepth 100000 in
theorem wx_k12 : (wx_e12).all (fun e => wx_chk (wx_or 12 e.2.2.2) rx_ro wx_bx wx_Kst 6000 rx_m12 e) = true := by decide +kernel
set_option maxRecDepth 100000 in
theorem wx_k13 : (wx_e13).all (fun e => wx_chk (wx_or 13 e.2.2.2) rx_ro wx_bx wx_Kst 6000 rx_m13 e) = true := by decide +kernel
set_option maxRecDepth 100000 in
theorem wx_k18 : (wx_e18).all (fun e => wx_chk (wx_or 18 e.2.2.2) rx_ro wx_bx wx_Kst 6000 rx_m18 e) = true := by decide +kernel
set_option maxRecDepth 100000 in
theorem wx_k19 : (wx_e19).all (fun e => wx_chk (wx_or 19 e.2.2.2) rx_ro wx_bx wx_Kst 6000 rx_m19 e) = true := by decide +kernel
set_option maxRecDepth 100000 in
theorem wx_k21 : (wx_e21).all (fun e => wx_chk (wx_or 21 e.2.2.2) rx_ro wx_bx wx_Kst 6000 rx_m21 e) = true := by decide +kernel
set_option maxRecDepth 100000 in
theorem wx_k24 : (wx_e24).all (fun e => wx_chk (wx_or 24 e.2.2.2) rx_ro wx_bx wx_Kst 6000 rx_m24 e) = true := by decide +kernel
set_option maxRecDepth 100000 in
theorem wx_k29 : (wx_e29).all (fun e => wx_chk (wx_or 29 e.2.2.2) rx_ro wx_bx wx_Kst 6000 rx_m29 e) = true := by decide +kernel
set_option maxRecDepth 100000 in
theorem wx_k30 : (wx_e30).all (fun e => wx_chk (wx_or 30 e.2.2.2) rx_ro wx_bx wx_Kst 6000 rx_m30 e) = true := by decide +kernel
set_option maxRecDepth 100000 in
theorem wx_k31 : (wx_e31).all (fun e => wx_chk (wx_or 31 e.2.2.2) rx_ro wx_bx wx_Kst 6000 rx_m31 e) = true := by decide +kernel
set_option maxRecDepth 100000 in
theorem wx_k32 : (wx_e32).all (fun e => wx_chk (wx_or 32 e.2.2.2) rx_ro wx_bx wx_Kst 6000 rx_m32 e) = true := by decide +kernel
set_option maxRecDepth 100000 in
theorem wx_k33 : (wx_e33).all (fun e => wx_chk (wx_or 33 e.2.2.2) rx_ro wx_bx wx_Kst 6000 rx_m33 e) = true := by decide +kernel
set_option maxRecDepth 100000 in
theorem wx_k34 : (wx_e34).all (fun e => wx_chk (wx_or 34 e.2.2.2) rx_ro wx_bx wx_Kst 6000 rx_m34 e) = true := by decide +kernel
set_option maxRecDepth 100000 in
theorem wx_k35 : (wx_e35).all (fun e => wx_chk (wx_or 35 e.2.2.2) rx_ro wx_bx wx_Kst 6000 rx_m35 e) = true := by decide +kernel
set_option maxRecDepth 100000 in
theorem wx_k36 : (wx_e36).all (fun e => wx_chk (wx_or 36 e.2.2.2) rx_ro wx_bx wx_Kst 6000 rx_m36 e) = true := by decide +kernel
set_option maxRecDepth 100000 in
theorem wx_k37 : (wx_e37).all (fun e => wx_chk (wx_or 37 e.2.2.2) rx_ro wx_bx wx_Kst 6000 rx_m37 e) = true := by decide +kernel
set_option maxRecDepth 100000 in
theorem wx_k38 : (wx_e38).all (fun e => wx_chk (wx_or 38 e.2.2.2) rx_ro wx_bx wx_Kst 6000 rx_m38 e) = true := by decide +kernel
set_option maxRecDepth 100000 in
theorem wx_k39 : (wx_e39).all (fun e => wx_chk (wx_or 39 e.2.2.2) rx_ro wx_bx wx_Kst 6000 rx_m39 e) = true := by decide +kernel
set_option maxRecDepth 100000 in
theorem wx_k40 : (wx_e40).all (fun e => wx_chk (wx_or 40 e.2.2.2) rx_ro wx_bx wx_Kst 6000 rx_m40 e) = true := by decide +kernel
set_option maxRecDepth 100000 in
theorem wx_k41 : (wx_e41).all (fun e => wx_chk (wx_or 41 e.2.2.2) rx_ro wx_bx wx_Kst 6000 rx_m41 e) = true := by decide +kernel
set_option maxRecDepth 100000 in
theorem wx_k42 : (wx_e42).all (fun e => wx_chk (wx_or 42 e.2.2.2) rx_ro wx_bx wx_Kst 6000 rx_m42 e) = true := by decide +kernel
set_option maxRecDepth 100000 in
theorem wx_k43 : (wx_e43).all (fun e => wx_chk (wx_or 43 e.2.2.2) rx_ro wx_bx wx_Kst 6000 rx_m43 e) = true := by decide +kernel
set_option maxRecDepth 100000 in
theorem wx_k44 : (wx_e44).all (fun e => wx_chk (wx_or 44 e.2.2.2) rx_ro wx_bx wx_Kst 6000 rx_m44 e) = true := by decide +kernel
set_option maxRecDepth 100000 in
theorem wx_k45 : (wx_e45).all (fun e => wx_chk (wx_or 45 e.2.2.2) rx_ro wx_bx wx_Kst 6000 rx_m45 e) = true := by decide +kernel
set_option maxRecDepth 100000 in
theorem wx_k46 : (wx_e46).all (fun e => wx_chk (wx_or 46 e.2.2.2) rx_ro wx_bx wx_Kst 6000 rx_m46 e) = true := by decide +kernel
set_option maxRecDepth 100000 in
theorem wx_k47 : (wx_e47).all (fun e => wx_chk (wx_or 47 e.2.2.2) rx_ro wx_bx wx_Kst 6000 rx_m47 e) = true := by decide +kernel
set_option maxRecDepth 100000 in
theorem wx_k48 : (wx_e48).all (fun e => wx_chk (wx_or 48 e.2.2.2) rx_ro wx_bx wx_Kst 6000 rx_m48 e) = true := by decide +kernel
set_option maxRecDepth 100000 in
theorem wx_k49 : (wx_e49).all (fun e => wx_chk (wx_or 49 e.2.2.2) rx_ro wx_bx wx_Kst 6000 rx_m49 e) = true := by decide +kernel
set_option maxRecDepth 100000 in
theorem wx_k50 : (wx_e50).all (fun e => wx_chk (wx_or 50 e.2.2.2) rx_ro wx_bx wx_Kst 6000 rx_m50 e) = true := by decide +kernel
set_option maxRecDepth 100000 in
theorem wx_k51 : (wx_e51).all (fun e => wx_chk (wx_or 51 e.2.2.2) rx_ro wx_bx wx_Kst 6000 rx_m51 e) = true := by decide +kernel
set_option maxRecDepth 100000 in
theorem wx_k52 : (wx_e52).all (fun e => wx_chk (wx_or 52 e.2.2.2) rx_ro wx_bx wx_Kst 6000 rx_m52 e) = true := by decide +kernel
set_option maxRecDepth 100000 in
theorem wx_k53 : (wx_e53).all (fun e => wx_chk (wx_or 53 e.2.2.2) rx_ro wx_bx wx_Kst 6000 rx_m53 e) = true := by decide +kernel
set_option maxRecDepth 100000 in
theorem wx_k54 : (wx_e54).all (fun e => wx_chk (wx_or 54 e.2.2.2) rx_ro wx_bx wx_Kst 6000 rx_m54 e) = true := by decide +kernel
set_option maxRecDepth 100000 in
theorem wx_k55 : (wx_e55).all (fun e => wx_chk (wx_or 55 e.2.2.2) rx_ro wx_bx wx_Kst 6000 rx_m55 e) = true := by decide +kernel
set_option maxRecDepth 100000 in
theorem wx_k56 : (wx_e56).all (fun e => wx_chk (wx_or 56 e.2.2.2) rx_ro wx_bx wx_Kst 6000 rx_m56 e) = true := by decide +kernel
set_option maxRecDepth 100000 in
theorem wx_k57 : (wx_e57).all (fun e => wx_chk (wx_or 57 e.2.2.2) rx_ro wx_bx wx_Kst 6000 rx_m57 e) = true := by decide +kernel
set_option maxRecDepth 100000 in
theorem wx_k58 : (wx_e58).all (fun e => wx_chk (wx_or 58 e.2.2.2) rx_ro wx_bx wx_Kst 6000 rx_m58 e) = true := by decide +kernel
set_option maxRecDepth 100000 in
theorem wx_k59 : (wx_e59).all (fun e => wx_chk (wx_or 59 e.2.2.2) rx_ro wx_bx wx_Kst 6000 rx_m59 e) = true := by decide +kernel
set_option maxRecDepth 100000 in
theorem wx_k60 : (wx_e60).all (fun e => wx_chk (wx_or 60 e.2.2.2) rx_ro wx_bx wx_Kst 6000 rx_m60 e) = true := by decide +kernel
set_option maxRecDepth 100000 in
theorem wx_k61 : (wx_e61).all (fun e => wx_chk (wx_or 61 e.2.2.2) rx_ro wx_bx wx_Kst 6000 rx_m61 e) = true := by decide +kernel
set_option maxRecDepth 100000 in
theorem wx_k63 : (wx_e63).all (fun e => wx_chk (wx_or 63 e.2.2.2) rx_ro wx_bx wx_Kst 6000 rx_m63 e) = true := by decide +kernel
set_option maxRecDepth 100000 in
theorem wx_k65 : (wx_e65).all (fun e => wx_chk (wx_or 65 e.2.2.2) rx_ro wx_bx wx_Kst 6000 rx_m65 e) = true := by decide +kernel
set_option maxRecDepth 100000 in
theorem wx_k67 : (wx_e67).all (fun e => wx_chk (wx_or 67 e.2.2.2) rx_ro wx_bx wx_Kst 6000 rx_m67 e) = true := by decide +kernel
set_option maxRecDepth 100000 in
theorem wx_k68 : (wx_e68).all (fun e => wx_chk (wx_or 68 e.2.2.2) rx_ro wx_bx wx_Kst 6000 rx_m68 e) = true := by decide +kernel
set_option maxRecDepth 100000 in
theorem wx_k69 : (wx_e69).all (fun e => wx_chk (wx_or 69 e.2.2.2) rx_ro wx_bx wx_Kst 6000 rx_m69 e) = true := by decide +kernel
