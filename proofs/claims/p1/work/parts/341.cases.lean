/-! ===== the calls, run ===== -/
set_option maxRecDepth 1000000 in
theorem gk_case48_m2147483648_2147483647_m2147483648_0 : gk_go rk_lawx (gk_lc48 ++ gk_lb) (1787, gk_cutS 48 (-2147483648) 2147483647 (-2147483648) 0) = true := gk_fast (by decide +kernel)
set_option maxRecDepth 1000000 in
theorem gk_case48_m2147483648_0_1_1 : gk_go rk_lawx (gk_lc48 ++ gk_lb) (1787, gk_cutS 48 (-2147483648) 0 1 1) = true := gk_fast (by decide +kernel)
set_option maxRecDepth 1000000 in
theorem gk_case48_1_20_1_1 : gk_go rk_lawx (gk_lc48 ++ gk_lb) (1787, gk_cutS 48 1 20 1 1) = true := gk_fast (by decide +kernel)
set_option maxRecDepth 1000000 in
theorem gk_case48_21_40_1_1 : gk_go rk_lawx (gk_lc48 ++ gk_lb) (1787, gk_cutS 48 21 40 1 1) = true := gk_fast (by decide +kernel)
set_option maxRecDepth 1000000 in
theorem gk_case48_41_60_1_1 : gk_go rk_lawx (gk_lc48 ++ gk_lb) (1787, gk_cutS 48 41 60 1 1) = true := gk_fast (by decide +kernel)
set_option maxRecDepth 1000000 in
theorem gk_case48_61_2147483647_1_1 : gk_go rk_lawx (gk_lc48 ++ gk_lb) (1787, gk_cutS 48 61 2147483647 1 1) = true := gk_fast (by decide +kernel)
set_option maxRecDepth 1000000 in
theorem gk_case48_m2147483648_0_2_2 : gk_go rk_lawx (gk_lc48 ++ gk_lb) (1787, gk_cutS 48 (-2147483648) 0 2 2) = true := gk_fast (by decide +kernel)
set_option maxRecDepth 1000000 in
theorem gk_case48_1_20_2_2 : gk_go rk_lawx (gk_lc48 ++ gk_lb) (1787, gk_cutS 48 1 20 2 2) = true := gk_fast (by decide +kernel)
set_option maxRecDepth 1000000 in
theorem gk_case48_21_40_2_2 : gk_go rk_lawx (gk_lc48 ++ gk_lb) (1787, gk_cutS 48 21 40 2 2) = true := gk_fast (by decide +kernel)
set_option maxRecDepth 1000000 in
theorem gk_case48_41_60_2_2 : gk_go rk_lawx (gk_lc48 ++ gk_lb) (1787, gk_cutS 48 41 60 2 2) = true := gk_fast (by decide +kernel)
set_option maxRecDepth 1000000 in
theorem gk_case48_61_2147483647_2_2 : gk_go rk_lawx (gk_lc48 ++ gk_lb) (1787, gk_cutS 48 61 2147483647 2 2) = true := gk_fast (by decide +kernel)
set_option maxRecDepth 1000000 in
theorem gk_case48_m2147483648_0_3_3 : gk_go rk_lawx (gk_lc48 ++ gk_lb) (1787, gk_cutS 48 (-2147483648) 0 3 3) = true := gk_fast (by decide +kernel)
set_option maxRecDepth 1000000 in
theorem gk_case48_1_20_3_3 : gk_go rk_lawx (gk_lc48 ++ gk_lb) (1787, gk_cutS 48 1 20 3 3) = true := gk_fast (by decide +kernel)
set_option maxRecDepth 1000000 in
theorem gk_case48_21_40_3_3 : gk_go rk_lawx (gk_lc48 ++ gk_lb) (1787, gk_cutS 48 21 40 3 3) = true := gk_fast (by decide +kernel)
set_option maxRecDepth 1000000 in
theorem gk_case48_41_60_3_3 : gk_go rk_lawx (gk_lc48 ++ gk_lb) (1787, gk_cutS 48 41 60 3 3) = true := gk_fast (by decide +kernel)
set_option maxRecDepth 1000000 in
theorem gk_case48_61_2147483647_3_3 : gk_go rk_lawx (gk_lc48 ++ gk_lb) (1787, gk_cutS 48 61 2147483647 3 3) = true := gk_fast (by decide +kernel)
set_option maxRecDepth 1000000 in
theorem gk_case48_m2147483648_0_4_4 : gk_go rk_lawx (gk_lc48 ++ gk_lb) (1787, gk_cutS 48 (-2147483648) 0 4 4) = true := gk_fast (by decide +kernel)
set_option maxRecDepth 1000000 in
theorem gk_case48_1_20_4_4 : gk_go rk_lawx (gk_lc48 ++ gk_lb) (1787, gk_cutS 48 1 20 4 4) = true := gk_fast (by decide +kernel)
set_option maxRecDepth 1000000 in
theorem gk_case48_21_40_4_4 : gk_go rk_lawx (gk_lc48 ++ gk_lb) (1787, gk_cutS 48 21 40 4 4) = true := gk_fast (by decide +kernel)
set_option maxRecDepth 1000000 in
theorem gk_case48_41_60_4_4 : gk_go rk_lawx (gk_lc48 ++ gk_lb) (1787, gk_cutS 48 41 60 4 4) = true := gk_fast (by decide +kernel)
set_option maxRecDepth 1000000 in
theorem gk_case48_61_2147483647_4_4 : gk_go rk_lawx (gk_lc48 ++ gk_lb) (1787, gk_cutS 48 61 2147483647 4 4) = true := gk_fast (by decide +kernel)
set_option maxRecDepth 1000000 in
theorem gk_case48_m2147483648_0_5_5 : gk_go rk_lawx (gk_lc48 ++ gk_lb) (1787, gk_cutS 48 (-2147483648) 0 5 5) = true := gk_fast (by decide +kernel)
set_option maxRecDepth 1000000 in
theorem gk_case48_1_20_5_5 : gk_go rk_lawx (gk_lc48 ++ gk_lb) (1787, gk_cutS 48 1 20 5 5) = true := gk_fast (by decide +kernel)
set_option maxRecDepth 1000000 in
theorem gk_case48_21_40_5_5 : gk_go rk_lawx (gk_lc48 ++ gk_lb) (1787, gk_cutS 48 21 40 5 5) = true := gk_fast (by decide +kernel)
set_option maxRecDepth 1000000 in
theorem gk_case48_41_60_5_5 : gk_go rk_lawx (gk_lc48 ++ gk_lb) (1787, gk_cutS 48 41 60 5 5) = true := gk_fast (by decide +kernel)
set_option maxRecDepth 1000000 in
theorem gk_case48_61_2147483647_5_5 : gk_go rk_lawx (gk_lc48 ++ gk_lb) (1787, gk_cutS 48 61 2147483647 5 5) = true := gk_fast (by decide +kernel)
set_option maxRecDepth 1000000 in
theorem gk_case48_m2147483648_0_6_6 : gk_go rk_lawx (gk_lc48 ++ gk_lb) (1787, gk_cutS 48 (-2147483648) 0 6 6) = true := gk_fast (by decide +kernel)
set_option maxRecDepth 1000000 in
theorem gk_case48_1_20_6_6 : gk_go rk_lawx (gk_lc48 ++ gk_lb) (1787, gk_cutS 48 1 20 6 6) = true := gk_fast (by decide +kernel)
set_option maxRecDepth 1000000 in
theorem gk_case48_21_40_6_6 : gk_go rk_lawx (gk_lc48 ++ gk_lb) (1787, gk_cutS 48 21 40 6 6) = true := gk_fast (by decide +kernel)
set_option maxRecDepth 1000000 in
theorem gk_case48_41_60_6_6 : gk_go rk_lawx (gk_lc48 ++ gk_lb) (1787, gk_cutS 48 41 60 6 6) = true := gk_fast (by decide +kernel)
set_option maxRecDepth 1000000 in
theorem gk_case48_61_2147483647_6_6 : gk_go rk_lawx (gk_lc48 ++ gk_lb) (1787, gk_cutS 48 61 2147483647 6 6) = true := gk_fast (by decide +kernel)
set_option maxRecDepth 1000000 in
theorem gk_case48_m2147483648_2147483647_7_2147483647 : gk_go rk_lawx (gk_lc48 ++ gk_lb) (1787, gk_cutS 48 (-2147483648) 2147483647 7 2147483647) = true := gk_fast (by decide +kernel)
