/-! ===== stubs, for the while ===== -/
theorem gk_pre : gk_go (gk_stop 16 (gk_S16 0 6)) (gk_la ++ gk_lb) (gk_q0 0 6) = true := sorry
theorem gk_pre5 : gk_go rk_lawx (gk_la ++ gk_lb) (16, gk_S16 0 5) = true := sorry
theorem gk_pre6 : gk_go (gk_stop 33 gk_S33) (gk_la ++ (gk_lb ++ gk_ld)) (16, gk_S16 6 6) = true := sorry
theorem gk_dflt : gk_go rk_lawx gk_lb (2160, gk_Sd) = true := sorry
theorem gk_p126 : gk_eqO (gk_call 126 [.inr (.inl 0)] (gk_env 0 6) [gk_newc 11]) gk_X126 = true := sorry
theorem gk_p201 : gk_eqO (gk_call 201 [.inr (.inl 0)] (gk_env 0 6) [gk_newc 12]) gk_X201 = true := sorry
theorem gk_case0 : gk_go rk_lawx (gk_lc0 ++ gk_lb) (284, gk_S 0) = true := sorry
theorem gk_case1 : gk_go rk_lawx (gk_lc1 ++ gk_lb) (297, gk_S 1) = true := sorry
theorem gk_case2 : gk_go rk_lawx (gk_lc2 ++ gk_lb) (311, gk_S 2) = true := sorry
theorem gk_case4 : gk_go rk_lawx (gk_lc4 ++ gk_lb) (368, gk_S 4) = true := sorry
theorem gk_case5 : gk_go rk_lawx (gk_lc5 ++ gk_lb) (441, gk_S 5) = true := sorry
theorem gk_case6 : gk_go rk_lawx (gk_lc6 ++ gk_lb) (475, gk_S 6) = true := sorry
theorem gk_case7 : gk_go rk_lawx (gk_lc7 ++ gk_lb) (538, gk_S 7) = true := sorry
theorem gk_case10 : gk_go rk_lawx (gk_lc10 ++ gk_lb) (647, gk_S 10) = true := sorry
theorem gk_case11 : gk_go rk_lawx (gk_lc11 ++ gk_lb) (670, gk_S 11) = true := sorry
theorem gk_case12 : gk_go rk_lawx (gk_lc12 ++ gk_lb) (693, gk_S 12) = true := sorry
theorem gk_case13 : gk_go rk_lawx (gk_lc13 ++ gk_lb) (726, gk_S 13) = true := sorry
theorem gk_case14 : gk_go rk_lawx (gk_lc14 ++ gk_lb) (759, gk_S 14) = true := sorry
theorem gk_case15 : gk_go rk_lawx (gk_lc15 ++ gk_lb) (792, gk_S 15) = true := sorry
theorem gk_case16 : gk_go rk_lawx (gk_lc16 ++ gk_lb) (825, gk_S 16) = true := sorry
theorem gk_case17 : gk_go rk_lawx (gk_lc17 ++ gk_lb) (858, gk_S 17) = true := sorry
theorem gk_case18 : gk_go rk_lawx (gk_lc18 ++ gk_lb) (881, gk_S 18) = true := sorry
theorem gk_case19 : gk_go rk_lawx (gk_lc19 ++ gk_lb) (924, gk_S 19) = true := sorry
theorem gk_case20 : gk_go rk_lawx (gk_lc20 ++ gk_lb) (957, gk_S 20) = true := sorry
theorem gk_case22 : gk_go rk_lawx (gk_lc22 ++ gk_lb) (1003, gk_S 22) = true := sorry
theorem gk_case23 : gk_go rk_lawx (gk_lc23 ++ gk_lb) (1026, gk_S 23) = true := sorry
theorem gk_case24 : gk_go rk_lawx (gk_lc24 ++ gk_lb) (1049, gk_S 24) = true := sorry
theorem gk_case25 : gk_go rk_lawx (gk_lc25 ++ gk_lb) (1072, gk_S 25) = true := sorry
theorem gk_case26 : gk_go rk_lawx (gk_lc26 ++ gk_lb) (1095, gk_S 26) = true := sorry
theorem gk_case27 : gk_go rk_lawx (gk_lc27 ++ gk_lb) (1128, gk_S 27) = true := sorry
theorem gk_case28 : gk_go rk_lawx (gk_lc28 ++ gk_lb) (1187, gk_S 28) = true := sorry
theorem gk_case29 : gk_go rk_lawx (gk_lc29 ++ gk_lb) (1220, gk_S 29) = true := sorry
theorem gk_case30 : gk_go rk_lawx (gk_lc30 ++ gk_lb) (1253, gk_S 30) = true := sorry
theorem gk_case31 : gk_go rk_lawx (gk_lc31 ++ gk_lb) (1286, gk_S 31) = true := sorry
theorem gk_case32 : gk_go rk_lawx (gk_lc32 ++ gk_lb) (1329, gk_S 32) = true := sorry
theorem gk_case33 : gk_go rk_lawx (gk_lc33 ++ gk_lb) (1362, gk_S 33) = true := sorry
theorem gk_case34 : gk_go rk_lawx (gk_lc34 ++ gk_lb) (1395, gk_S 34) = true := sorry
theorem gk_case35 : gk_go rk_lawx (gk_lc35 ++ gk_lb) (1438, gk_S 35) = true := sorry
theorem gk_case36 : gk_go rk_lawx (gk_lc36 ++ gk_lb) (1461, gk_S 36) = true := sorry
theorem gk_case37 : gk_go rk_lawx (gk_lc37 ++ gk_lb) (1494, gk_S 37) = true := sorry
theorem gk_case38 : gk_go rk_lawx (gk_lc38 ++ gk_lb) (1527, gk_S 38) = true := sorry
theorem gk_case39 : gk_go rk_lawx (gk_lc39 ++ gk_lb) (1550, gk_S 39) = true := sorry
theorem gk_case40 : gk_go rk_lawx (gk_lc40 ++ gk_lb) (1563, gk_S 40) = true := sorry
theorem gk_case41 : gk_go rk_lawx (gk_lc41 ++ gk_lb) (1586, gk_S 41) = true := sorry
theorem gk_case42 : gk_go rk_lawx (gk_lc42 ++ gk_lb) (1619, gk_S 42) = true := sorry
theorem gk_case43 : gk_go rk_lawx (gk_lc43 ++ gk_lb) (1662, gk_S 43) = true := sorry
theorem gk_case45 : gk_go rk_lawx (gk_lc45 ++ gk_lb) (1708, gk_S 45) = true := sorry
theorem gk_case46 : gk_go rk_lawx (gk_lc46 ++ gk_lb) (1731, gk_S 46) = true := sorry
theorem gk_case47 : gk_go rk_lawx (gk_lc47 ++ gk_lb) (1754, gk_S 47) = true := sorry
theorem gk_case50 : gk_go rk_lawx (gk_lc50 ++ gk_lb) (1853, gk_S 50) = true := sorry
theorem gk_case51 : gk_go rk_lawx (gk_lc51 ++ gk_lb) (1876, gk_S 51) = true := sorry
theorem gk_case52 : gk_go rk_lawx (gk_lc52 ++ gk_lb) (1939, gk_S 52) = true := sorry
theorem gk_case53 : gk_go rk_lawx (gk_lc53 ++ gk_lb) (2002, gk_S 53) = true := sorry
theorem gk_case54 : gk_go rk_lawx (gk_lc54 ++ gk_lb) (2055, gk_S 54) = true := sorry
theorem gk_case55 : gk_go rk_lawx (gk_lc55 ++ gk_lb) (2078, gk_S 55) = true := sorry
theorem gk_case56 : gk_go rk_lawx (gk_lc56 ++ gk_lb) (2101, gk_S 56) = true := sorry
theorem gk_case58 : gk_go rk_lawx (gk_lc58 ++ gk_lb) (2147, gk_S 58) = true := sorry
theorem gk_case9 : gk_go rk_lawx (gk_lc9 ++ gk_lb) (624, gk_S 9) = true := sorry
theorem gk_case21 : gk_go rk_lawx (gk_lc21 ++ gk_lb) (980, gk_S 21) = true := sorry
theorem gk_case3 : gk_go rk_lawx (gk_lc3 ++ gk_lb) (325, gk_S 3) = true := sorry
theorem gk_case44 : gk_go rk_lawx (gk_lc44 ++ gk_lb) (1695, gk_S 44) = true := sorry
theorem gk_case57 : gk_go rk_lawx (gk_lc57 ++ gk_lb) (2134, gk_S 57) = true := sorry
theorem gk_case8 : gk_go rk_lawx (gk_lc8 ++ gk_lb) (601, gk_S 8) = true := sorry
theorem gk_case48_m2147483648_2147483647_m2147483648_0 : gk_go rk_lawx (gk_lc48 ++ gk_lb) (1787, gk_cutS 48 (-2147483648) 2147483647 (-2147483648) 0) = true := sorry
theorem gk_case48_m2147483648_0_1_1 : gk_go rk_lawx (gk_lc48 ++ gk_lb) (1787, gk_cutS 48 (-2147483648) 0 1 1) = true := sorry
theorem gk_case48_1_20_1_1 : gk_go rk_lawx (gk_lc48 ++ gk_lb) (1787, gk_cutS 48 1 20 1 1) = true := sorry
theorem gk_case48_21_40_1_1 : gk_go rk_lawx (gk_lc48 ++ gk_lb) (1787, gk_cutS 48 21 40 1 1) = true := sorry
theorem gk_case48_41_60_1_1 : gk_go rk_lawx (gk_lc48 ++ gk_lb) (1787, gk_cutS 48 41 60 1 1) = true := sorry
theorem gk_case48_61_2147483647_1_1 : gk_go rk_lawx (gk_lc48 ++ gk_lb) (1787, gk_cutS 48 61 2147483647 1 1) = true := sorry
theorem gk_case48_m2147483648_0_2_2 : gk_go rk_lawx (gk_lc48 ++ gk_lb) (1787, gk_cutS 48 (-2147483648) 0 2 2) = true := sorry
theorem gk_case48_1_20_2_2 : gk_go rk_lawx (gk_lc48 ++ gk_lb) (1787, gk_cutS 48 1 20 2 2) = true := sorry
theorem gk_case48_21_40_2_2 : gk_go rk_lawx (gk_lc48 ++ gk_lb) (1787, gk_cutS 48 21 40 2 2) = true := sorry
theorem gk_case48_41_60_2_2 : gk_go rk_lawx (gk_lc48 ++ gk_lb) (1787, gk_cutS 48 41 60 2 2) = true := sorry
theorem gk_case48_61_2147483647_2_2 : gk_go rk_lawx (gk_lc48 ++ gk_lb) (1787, gk_cutS 48 61 2147483647 2 2) = true := sorry
theorem gk_case48_m2147483648_0_3_3 : gk_go rk_lawx (gk_lc48 ++ gk_lb) (1787, gk_cutS 48 (-2147483648) 0 3 3) = true := sorry
theorem gk_case48_1_20_3_3 : gk_go rk_lawx (gk_lc48 ++ gk_lb) (1787, gk_cutS 48 1 20 3 3) = true := sorry
theorem gk_case48_21_40_3_3 : gk_go rk_lawx (gk_lc48 ++ gk_lb) (1787, gk_cutS 48 21 40 3 3) = true := sorry
theorem gk_case48_41_60_3_3 : gk_go rk_lawx (gk_lc48 ++ gk_lb) (1787, gk_cutS 48 41 60 3 3) = true := sorry
theorem gk_case48_61_2147483647_3_3 : gk_go rk_lawx (gk_lc48 ++ gk_lb) (1787, gk_cutS 48 61 2147483647 3 3) = true := sorry
theorem gk_case48_m2147483648_0_4_4 : gk_go rk_lawx (gk_lc48 ++ gk_lb) (1787, gk_cutS 48 (-2147483648) 0 4 4) = true := sorry
theorem gk_case48_1_20_4_4 : gk_go rk_lawx (gk_lc48 ++ gk_lb) (1787, gk_cutS 48 1 20 4 4) = true := sorry
theorem gk_case48_21_40_4_4 : gk_go rk_lawx (gk_lc48 ++ gk_lb) (1787, gk_cutS 48 21 40 4 4) = true := sorry
theorem gk_case48_41_60_4_4 : gk_go rk_lawx (gk_lc48 ++ gk_lb) (1787, gk_cutS 48 41 60 4 4) = true := sorry
theorem gk_case48_61_2147483647_4_4 : gk_go rk_lawx (gk_lc48 ++ gk_lb) (1787, gk_cutS 48 61 2147483647 4 4) = true := sorry
theorem gk_case48_m2147483648_0_5_5 : gk_go rk_lawx (gk_lc48 ++ gk_lb) (1787, gk_cutS 48 (-2147483648) 0 5 5) = true := sorry
theorem gk_case48_1_20_5_5 : gk_go rk_lawx (gk_lc48 ++ gk_lb) (1787, gk_cutS 48 1 20 5 5) = true := sorry
theorem gk_case48_21_40_5_5 : gk_go rk_lawx (gk_lc48 ++ gk_lb) (1787, gk_cutS 48 21 40 5 5) = true := sorry
theorem gk_case48_41_60_5_5 : gk_go rk_lawx (gk_lc48 ++ gk_lb) (1787, gk_cutS 48 41 60 5 5) = true := sorry
theorem gk_case48_61_2147483647_5_5 : gk_go rk_lawx (gk_lc48 ++ gk_lb) (1787, gk_cutS 48 61 2147483647 5 5) = true := sorry
theorem gk_case48_m2147483648_0_6_6 : gk_go rk_lawx (gk_lc48 ++ gk_lb) (1787, gk_cutS 48 (-2147483648) 0 6 6) = true := sorry
theorem gk_case48_1_20_6_6 : gk_go rk_lawx (gk_lc48 ++ gk_lb) (1787, gk_cutS 48 1 20 6 6) = true := sorry
theorem gk_case48_21_40_6_6 : gk_go rk_lawx (gk_lc48 ++ gk_lb) (1787, gk_cutS 48 21 40 6 6) = true := sorry
theorem gk_case48_41_60_6_6 : gk_go rk_lawx (gk_lc48 ++ gk_lb) (1787, gk_cutS 48 41 60 6 6) = true := sorry
theorem gk_case48_61_2147483647_6_6 : gk_go rk_lawx (gk_lc48 ++ gk_lb) (1787, gk_cutS 48 61 2147483647 6 6) = true := sorry
theorem gk_case48_m2147483648_2147483647_7_2147483647 : gk_go rk_lawx (gk_lc48 ++ gk_lb) (1787, gk_cutS 48 (-2147483648) 2147483647 7 2147483647) = true := sorry
theorem gk_case49_m2147483648_2147483647_m2147483648_0 : gk_go rk_lawx (gk_lc49 ++ gk_lb) (1820, gk_cutS 49 (-2147483648) 2147483647 (-2147483648) 0) = true := sorry
theorem gk_case49_m2147483648_0_1_1 : gk_go rk_lawx (gk_lc49 ++ gk_lb) (1820, gk_cutS 49 (-2147483648) 0 1 1) = true := sorry
theorem gk_case49_61_2147483647_1_1 : gk_go rk_lawx (gk_lc49 ++ gk_lb) (1820, gk_cutS 49 61 2147483647 1 1) = true := sorry
theorem gk_case49_m2147483648_0_2_2 : gk_go rk_lawx (gk_lc49 ++ gk_lb) (1820, gk_cutS 49 (-2147483648) 0 2 2) = true := sorry
theorem gk_case49_61_2147483647_2_2 : gk_go rk_lawx (gk_lc49 ++ gk_lb) (1820, gk_cutS 49 61 2147483647 2 2) = true := sorry
theorem gk_case49_m2147483648_0_3_3 : gk_go rk_lawx (gk_lc49 ++ gk_lb) (1820, gk_cutS 49 (-2147483648) 0 3 3) = true := sorry
theorem gk_case49_61_2147483647_3_3 : gk_go rk_lawx (gk_lc49 ++ gk_lb) (1820, gk_cutS 49 61 2147483647 3 3) = true := sorry
theorem gk_case49_m2147483648_0_4_4 : gk_go rk_lawx (gk_lc49 ++ gk_lb) (1820, gk_cutS 49 (-2147483648) 0 4 4) = true := sorry
theorem gk_case49_61_2147483647_4_4 : gk_go rk_lawx (gk_lc49 ++ gk_lb) (1820, gk_cutS 49 61 2147483647 4 4) = true := sorry
theorem gk_case49_m2147483648_0_5_5 : gk_go rk_lawx (gk_lc49 ++ gk_lb) (1820, gk_cutS 49 (-2147483648) 0 5 5) = true := sorry
theorem gk_case49_61_2147483647_5_5 : gk_go rk_lawx (gk_lc49 ++ gk_lb) (1820, gk_cutS 49 61 2147483647 5 5) = true := sorry
theorem gk_case49_m2147483648_0_6_6 : gk_go rk_lawx (gk_lc49 ++ gk_lb) (1820, gk_cutS 49 (-2147483648) 0 6 6) = true := sorry
theorem gk_case49_61_2147483647_6_6 : gk_go rk_lawx (gk_lc49 ++ gk_lb) (1820, gk_cutS 49 61 2147483647 6 6) = true := sorry
theorem gk_case49_m2147483648_2147483647_7_2147483647 : gk_go rk_lawx (gk_lc49 ++ gk_lb) (1820, gk_cutS 49 (-2147483648) 2147483647 7 2147483647) = true := sorry
theorem gk_case49_1_20_1_1 : gk_go rk_lawx (gk_lc49 ++ gk_lb) (1820, gk_cutS 49 1 20 1 1) = true := sorry
theorem gk_case49_21_40_1_1 : gk_go rk_lawx (gk_lc49 ++ gk_lb) (1820, gk_cutS 49 21 40 1 1) = true := sorry
theorem gk_case49_41_60_1_1 : gk_go rk_lawx (gk_lc49 ++ gk_lb) (1820, gk_cutS 49 41 60 1 1) = true := sorry
theorem gk_case49_1_20_2_2 : gk_go rk_lawx (gk_lc49 ++ gk_lb) (1820, gk_cutS 49 1 20 2 2) = true := sorry
theorem gk_case49_21_40_2_2 : gk_go rk_lawx (gk_lc49 ++ gk_lb) (1820, gk_cutS 49 21 40 2 2) = true := sorry
theorem gk_case49_41_60_2_2 : gk_go rk_lawx (gk_lc49 ++ gk_lb) (1820, gk_cutS 49 41 60 2 2) = true := sorry
theorem gk_case49_1_20_3_3 : gk_go rk_lawx (gk_lc49 ++ gk_lb) (1820, gk_cutS 49 1 20 3 3) = true := sorry
theorem gk_case49_21_40_3_3 : gk_go rk_lawx (gk_lc49 ++ gk_lb) (1820, gk_cutS 49 21 40 3 3) = true := sorry
theorem gk_case49_41_60_3_3 : gk_go rk_lawx (gk_lc49 ++ gk_lb) (1820, gk_cutS 49 41 60 3 3) = true := sorry
theorem gk_case49_1_20_4_4 : gk_go rk_lawx (gk_lc49 ++ gk_lb) (1820, gk_cutS 49 1 20 4 4) = true := sorry
theorem gk_case49_21_40_4_4 : gk_go rk_lawx (gk_lc49 ++ gk_lb) (1820, gk_cutS 49 21 40 4 4) = true := sorry
theorem gk_case49_41_60_4_4 : gk_go rk_lawx (gk_lc49 ++ gk_lb) (1820, gk_cutS 49 41 60 4 4) = true := sorry
theorem gk_case49_1_20_5_5 : gk_go rk_lawx (gk_lc49 ++ gk_lb) (1820, gk_cutS 49 1 20 5 5) = true := sorry
theorem gk_case49_21_40_5_5 : gk_go rk_lawx (gk_lc49 ++ gk_lb) (1820, gk_cutS 49 21 40 5 5) = true := sorry
theorem gk_case49_41_60_5_5 : gk_go rk_lawx (gk_lc49 ++ gk_lb) (1820, gk_cutS 49 41 60 5 5) = true := sorry
theorem gk_case49_1_20_6_6 : gk_go rk_lawx (gk_lc49 ++ gk_lb) (1820, gk_cutS 49 1 20 6 6) = true := sorry
theorem gk_case49_21_40_6_6 : gk_go rk_lawx (gk_lc49 ++ gk_lb) (1820, gk_cutS 49 21 40 6 6) = true := sorry
theorem gk_case49_41_60_6_6 : gk_go rk_lawx (gk_lc49 ++ gk_lb) (1820, gk_cutS 49 41 60 6 6) = true := sorry
theorem gk_lai : ∀ r ∈ gk_la, decode code r.1 = .ok r.2 := sorry
theorem gk_lbi : ∀ r ∈ gk_lb, decode code r.1 = .ok r.2 := sorry
theorem gk_ldi : ∀ r ∈ gk_ld, decode code r.1 = .ok r.2 := sorry
theorem gk_lci0 : ∀ r ∈ gk_lc0, decode code r.1 = .ok r.2 := sorry
theorem gk_lci1 : ∀ r ∈ gk_lc1, decode code r.1 = .ok r.2 := sorry
theorem gk_lci2 : ∀ r ∈ gk_lc2, decode code r.1 = .ok r.2 := sorry
theorem gk_lci3 : ∀ r ∈ gk_lc3, decode code r.1 = .ok r.2 := sorry
theorem gk_lci4 : ∀ r ∈ gk_lc4, decode code r.1 = .ok r.2 := sorry
theorem gk_lci5 : ∀ r ∈ gk_lc5, decode code r.1 = .ok r.2 := sorry
theorem gk_lci6 : ∀ r ∈ gk_lc6, decode code r.1 = .ok r.2 := sorry
theorem gk_lci7 : ∀ r ∈ gk_lc7, decode code r.1 = .ok r.2 := sorry
theorem gk_lci8 : ∀ r ∈ gk_lc8, decode code r.1 = .ok r.2 := sorry
theorem gk_lci9 : ∀ r ∈ gk_lc9, decode code r.1 = .ok r.2 := sorry
theorem gk_lci10 : ∀ r ∈ gk_lc10, decode code r.1 = .ok r.2 := sorry
theorem gk_lci11 : ∀ r ∈ gk_lc11, decode code r.1 = .ok r.2 := sorry
theorem gk_lci12 : ∀ r ∈ gk_lc12, decode code r.1 = .ok r.2 := sorry
theorem gk_lci13 : ∀ r ∈ gk_lc13, decode code r.1 = .ok r.2 := sorry
theorem gk_lci14 : ∀ r ∈ gk_lc14, decode code r.1 = .ok r.2 := sorry
theorem gk_lci15 : ∀ r ∈ gk_lc15, decode code r.1 = .ok r.2 := sorry
theorem gk_lci16 : ∀ r ∈ gk_lc16, decode code r.1 = .ok r.2 := sorry
theorem gk_lci17 : ∀ r ∈ gk_lc17, decode code r.1 = .ok r.2 := sorry
theorem gk_lci18 : ∀ r ∈ gk_lc18, decode code r.1 = .ok r.2 := sorry
theorem gk_lci19 : ∀ r ∈ gk_lc19, decode code r.1 = .ok r.2 := sorry
theorem gk_lci20 : ∀ r ∈ gk_lc20, decode code r.1 = .ok r.2 := sorry
theorem gk_lci21 : ∀ r ∈ gk_lc21, decode code r.1 = .ok r.2 := sorry
theorem gk_lci22 : ∀ r ∈ gk_lc22, decode code r.1 = .ok r.2 := sorry
theorem gk_lci23 : ∀ r ∈ gk_lc23, decode code r.1 = .ok r.2 := sorry
theorem gk_lci24 : ∀ r ∈ gk_lc24, decode code r.1 = .ok r.2 := sorry
theorem gk_lci25 : ∀ r ∈ gk_lc25, decode code r.1 = .ok r.2 := sorry
theorem gk_lci26 : ∀ r ∈ gk_lc26, decode code r.1 = .ok r.2 := sorry
theorem gk_lci27 : ∀ r ∈ gk_lc27, decode code r.1 = .ok r.2 := sorry
theorem gk_lci28 : ∀ r ∈ gk_lc28, decode code r.1 = .ok r.2 := sorry
theorem gk_lci29 : ∀ r ∈ gk_lc29, decode code r.1 = .ok r.2 := sorry
theorem gk_lci30 : ∀ r ∈ gk_lc30, decode code r.1 = .ok r.2 := sorry
theorem gk_lci31 : ∀ r ∈ gk_lc31, decode code r.1 = .ok r.2 := sorry
theorem gk_lci32 : ∀ r ∈ gk_lc32, decode code r.1 = .ok r.2 := sorry
theorem gk_lci33 : ∀ r ∈ gk_lc33, decode code r.1 = .ok r.2 := sorry
theorem gk_lci34 : ∀ r ∈ gk_lc34, decode code r.1 = .ok r.2 := sorry
theorem gk_lci35 : ∀ r ∈ gk_lc35, decode code r.1 = .ok r.2 := sorry
theorem gk_lci36 : ∀ r ∈ gk_lc36, decode code r.1 = .ok r.2 := sorry
theorem gk_lci37 : ∀ r ∈ gk_lc37, decode code r.1 = .ok r.2 := sorry
theorem gk_lci38 : ∀ r ∈ gk_lc38, decode code r.1 = .ok r.2 := sorry
theorem gk_lci39 : ∀ r ∈ gk_lc39, decode code r.1 = .ok r.2 := sorry
theorem gk_lci40 : ∀ r ∈ gk_lc40, decode code r.1 = .ok r.2 := sorry
theorem gk_lci41 : ∀ r ∈ gk_lc41, decode code r.1 = .ok r.2 := sorry
theorem gk_lci42 : ∀ r ∈ gk_lc42, decode code r.1 = .ok r.2 := sorry
theorem gk_lci43 : ∀ r ∈ gk_lc43, decode code r.1 = .ok r.2 := sorry
theorem gk_lci44 : ∀ r ∈ gk_lc44, decode code r.1 = .ok r.2 := sorry
theorem gk_lci45 : ∀ r ∈ gk_lc45, decode code r.1 = .ok r.2 := sorry
theorem gk_lci46 : ∀ r ∈ gk_lc46, decode code r.1 = .ok r.2 := sorry
theorem gk_lci47 : ∀ r ∈ gk_lc47, decode code r.1 = .ok r.2 := sorry
theorem gk_lci48 : ∀ r ∈ gk_lc48, decode code r.1 = .ok r.2 := sorry
theorem gk_lci49 : ∀ r ∈ gk_lc49, decode code r.1 = .ok r.2 := sorry
theorem gk_lci50 : ∀ r ∈ gk_lc50, decode code r.1 = .ok r.2 := sorry
theorem gk_lci51 : ∀ r ∈ gk_lc51, decode code r.1 = .ok r.2 := sorry
theorem gk_lci52 : ∀ r ∈ gk_lc52, decode code r.1 = .ok r.2 := sorry
theorem gk_lci53 : ∀ r ∈ gk_lc53, decode code r.1 = .ok r.2 := sorry
theorem gk_lci54 : ∀ r ∈ gk_lc54, decode code r.1 = .ok r.2 := sorry
theorem gk_lci55 : ∀ r ∈ gk_lc55, decode code r.1 = .ok r.2 := sorry
theorem gk_lci56 : ∀ r ∈ gk_lc56, decode code r.1 = .ok r.2 := sorry
theorem gk_lci57 : ∀ r ∈ gk_lc57, decode code r.1 = .ok r.2 := sorry
theorem gk_lci58 : ∀ r ∈ gk_lc58, decode code r.1 = .ok r.2 := sorry
