/-! ===== the calls, run ===== -/
set_option maxRecDepth 1000000 in
theorem gk_case0 : gk_go rk_lawx (gk_lc0 ++ gk_lb) (284, gk_S 0) = true := by decide +kernel
set_option maxRecDepth 1000000 in
theorem gk_case1 : gk_go rk_lawx (gk_lc1 ++ gk_lb) (297, gk_S 1) = true := by decide +kernel
set_option maxRecDepth 1000000 in
theorem gk_case2 : gk_go rk_lawx (gk_lc2 ++ gk_lb) (311, gk_S 2) = true := by decide +kernel
set_option maxRecDepth 1000000 in
theorem gk_case4 : gk_go rk_lawx (gk_lc4 ++ gk_lb) (368, gk_S 4) = true := by decide +kernel
set_option maxRecDepth 1000000 in
theorem gk_case5 : gk_go rk_lawx (gk_lc5 ++ gk_lb) (441, gk_S 5) = true := by decide +kernel
set_option maxRecDepth 1000000 in
theorem gk_case6 : gk_go rk_lawx (gk_lc6 ++ gk_lb) (475, gk_S 6) = true := by decide +kernel
set_option maxRecDepth 1000000 in
theorem gk_case7 : gk_go rk_lawx (gk_lc7 ++ gk_lb) (538, gk_S 7) = true := by decide +kernel
set_option maxRecDepth 1000000 in
theorem gk_case10 : gk_go rk_lawx (gk_lc10 ++ gk_lb) (647, gk_S 10) = true := by decide +kernel
set_option maxRecDepth 1000000 in
theorem gk_case11 : gk_go rk_lawx (gk_lc11 ++ gk_lb) (670, gk_S 11) = true := by decide +kernel
set_option maxRecDepth 1000000 in
theorem gk_case12 : gk_go rk_lawx (gk_lc12 ++ gk_lb) (693, gk_S 12) = true := by decide +kernel
set_option maxRecDepth 1000000 in
theorem gk_case13 : gk_go rk_lawx (gk_lc13 ++ gk_lb) (726, gk_S 13) = true := by decide +kernel
set_option maxRecDepth 1000000 in
theorem gk_case14 : gk_go rk_lawx (gk_lc14 ++ gk_lb) (759, gk_S 14) = true := by decide +kernel
set_option maxRecDepth 1000000 in
theorem gk_case15 : gk_go rk_lawx (gk_lc15 ++ gk_lb) (792, gk_S 15) = true := by decide +kernel
set_option maxRecDepth 1000000 in
theorem gk_case16 : gk_go rk_lawx (gk_lc16 ++ gk_lb) (825, gk_S 16) = true := by decide +kernel
set_option maxRecDepth 1000000 in
theorem gk_case17 : gk_go rk_lawx (gk_lc17 ++ gk_lb) (858, gk_S 17) = true := by decide +kernel
set_option maxRecDepth 1000000 in
theorem gk_case18 : gk_go rk_lawx (gk_lc18 ++ gk_lb) (881, gk_S 18) = true := by decide +kernel
set_option maxRecDepth 1000000 in
theorem gk_case19 : gk_go rk_lawx (gk_lc19 ++ gk_lb) (924, gk_S 19) = true := by decide +kernel
set_option maxRecDepth 1000000 in
theorem gk_case20 : gk_go rk_lawx (gk_lc20 ++ gk_lb) (957, gk_S 20) = true := by decide +kernel
set_option maxRecDepth 1000000 in
theorem gk_case22 : gk_go rk_lawx (gk_lc22 ++ gk_lb) (1003, gk_S 22) = true := by decide +kernel
set_option maxRecDepth 1000000 in
theorem gk_case23 : gk_go rk_lawx (gk_lc23 ++ gk_lb) (1026, gk_S 23) = true := by decide +kernel
set_option maxRecDepth 1000000 in
theorem gk_case24 : gk_go rk_lawx (gk_lc24 ++ gk_lb) (1049, gk_S 24) = true := by decide +kernel
set_option maxRecDepth 1000000 in
theorem gk_case25 : gk_go rk_lawx (gk_lc25 ++ gk_lb) (1072, gk_S 25) = true := by decide +kernel
set_option maxRecDepth 1000000 in
theorem gk_case26 : gk_go rk_lawx (gk_lc26 ++ gk_lb) (1095, gk_S 26) = true := by decide +kernel
set_option maxRecDepth 1000000 in
theorem gk_case27 : gk_go rk_lawx (gk_lc27 ++ gk_lb) (1128, gk_S 27) = true := by decide +kernel
set_option maxRecDepth 1000000 in
theorem gk_case28 : gk_go rk_lawx (gk_lc28 ++ gk_lb) (1187, gk_S 28) = true := by decide +kernel
set_option maxRecDepth 1000000 in
theorem gk_case29 : gk_go rk_lawx (gk_lc29 ++ gk_lb) (1220, gk_S 29) = true := by decide +kernel
set_option maxRecDepth 1000000 in
theorem gk_case30 : gk_go rk_lawx (gk_lc30 ++ gk_lb) (1253, gk_S 30) = true := by decide +kernel
set_option maxRecDepth 1000000 in
theorem gk_case31 : gk_go rk_lawx (gk_lc31 ++ gk_lb) (1286, gk_S 31) = true := by decide +kernel
set_option maxRecDepth 1000000 in
theorem gk_case32 : gk_go rk_lawx (gk_lc32 ++ gk_lb) (1329, gk_S 32) = true := by decide +kernel
set_option maxRecDepth 1000000 in
theorem gk_case33 : gk_go rk_lawx (gk_lc33 ++ gk_lb) (1362, gk_S 33) = true := by decide +kernel
set_option maxRecDepth 1000000 in
theorem gk_case34 : gk_go rk_lawx (gk_lc34 ++ gk_lb) (1395, gk_S 34) = true := by decide +kernel
set_option maxRecDepth 1000000 in
theorem gk_case35 : gk_go rk_lawx (gk_lc35 ++ gk_lb) (1438, gk_S 35) = true := by decide +kernel
set_option maxRecDepth 1000000 in
theorem gk_case36 : gk_go rk_lawx (gk_lc36 ++ gk_lb) (1461, gk_S 36) = true := by decide +kernel
set_option maxRecDepth 1000000 in
theorem gk_case37 : gk_go rk_lawx (gk_lc37 ++ gk_lb) (1494, gk_S 37) = true := by decide +kernel
set_option maxRecDepth 1000000 in
theorem gk_case38 : gk_go rk_lawx (gk_lc38 ++ gk_lb) (1527, gk_S 38) = true := by decide +kernel
set_option maxRecDepth 1000000 in
theorem gk_case39 : gk_go rk_lawx (gk_lc39 ++ gk_lb) (1550, gk_S 39) = true := by decide +kernel
set_option maxRecDepth 1000000 in
theorem gk_case40 : gk_go rk_lawx (gk_lc40 ++ gk_lb) (1563, gk_S 40) = true := by decide +kernel
set_option maxRecDepth 1000000 in
theorem gk_case41 : gk_go rk_lawx (gk_lc41 ++ gk_lb) (1586, gk_S 41) = true := by decide +kernel
set_option maxRecDepth 1000000 in
theorem gk_case42 : gk_go rk_lawx (gk_lc42 ++ gk_lb) (1619, gk_S 42) = true := by decide +kernel
set_option maxRecDepth 1000000 in
theorem gk_case43 : gk_go rk_lawx (gk_lc43 ++ gk_lb) (1662, gk_S 43) = true := by decide +kernel
set_option maxRecDepth 1000000 in
theorem gk_case45 : gk_go rk_lawx (gk_lc45 ++ gk_lb) (1708, gk_S 45) = true := by decide +kernel
set_option maxRecDepth 1000000 in
theorem gk_case46 : gk_go rk_lawx (gk_lc46 ++ gk_lb) (1731, gk_S 46) = true := by decide +kernel
set_option maxRecDepth 1000000 in
theorem gk_case47 : gk_go rk_lawx (gk_lc47 ++ gk_lb) (1754, gk_S 47) = true := by decide +kernel
set_option maxRecDepth 1000000 in
theorem gk_case50 : gk_go rk_lawx (gk_lc50 ++ gk_lb) (1853, gk_S 50) = true := by decide +kernel
set_option maxRecDepth 1000000 in
theorem gk_case51 : gk_go rk_lawx (gk_lc51 ++ gk_lb) (1876, gk_S 51) = true := by decide +kernel
set_option maxRecDepth 1000000 in
theorem gk_case52 : gk_go rk_lawx (gk_lc52 ++ gk_lb) (1939, gk_S 52) = true := by decide +kernel
set_option maxRecDepth 1000000 in
theorem gk_case53 : gk_go rk_lawx (gk_lc53 ++ gk_lb) (2002, gk_S 53) = true := by decide +kernel
set_option maxRecDepth 1000000 in
theorem gk_case54 : gk_go rk_lawx (gk_lc54 ++ gk_lb) (2055, gk_S 54) = true := by decide +kernel
set_option maxRecDepth 1000000 in
theorem gk_case55 : gk_go rk_lawx (gk_lc55 ++ gk_lb) (2078, gk_S 55) = true := by decide +kernel
set_option maxRecDepth 1000000 in
theorem gk_case56 : gk_go rk_lawx (gk_lc56 ++ gk_lb) (2101, gk_S 56) = true := by decide +kernel
set_option maxRecDepth 1000000 in
theorem gk_case58 : gk_go rk_lawx (gk_lc58 ++ gk_lb) (2147, gk_S 58) = true := by decide +kernel
