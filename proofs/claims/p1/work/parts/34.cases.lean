/-! ===== the calls, run ===== -/
set_option maxRecDepth 1000000 in
theorem gk_case49_m2147483648_2147483647_m2147483648_0 : gk_go rk_lawx (gk_lc49 ++ gk_lb) (1820, gk_cutS 49 (-2147483648) 2147483647 (-2147483648) 0) = true := gk_fast (by decide +kernel)
set_option maxRecDepth 1000000 in
theorem gk_case49_m2147483648_0_1_1 : gk_go rk_lawx (gk_lc49 ++ gk_lb) (1820, gk_cutS 49 (-2147483648) 0 1 1) = true := gk_fast (by decide +kernel)
set_option maxRecDepth 1000000 in
theorem gk_case49_61_2147483647_1_1 : gk_go rk_lawx (gk_lc49 ++ gk_lb) (1820, gk_cutS 49 61 2147483647 1 1) = true := gk_fast (by decide +kernel)
set_option maxRecDepth 1000000 in
theorem gk_case49_m2147483648_0_2_2 : gk_go rk_lawx (gk_lc49 ++ gk_lb) (1820, gk_cutS 49 (-2147483648) 0 2 2) = true := gk_fast (by decide +kernel)
set_option maxRecDepth 1000000 in
theorem gk_case49_61_2147483647_2_2 : gk_go rk_lawx (gk_lc49 ++ gk_lb) (1820, gk_cutS 49 61 2147483647 2 2) = true := gk_fast (by decide +kernel)
set_option maxRecDepth 1000000 in
theorem gk_case49_m2147483648_0_3_3 : gk_go rk_lawx (gk_lc49 ++ gk_lb) (1820, gk_cutS 49 (-2147483648) 0 3 3) = true := gk_fast (by decide +kernel)
set_option maxRecDepth 1000000 in
theorem gk_case49_61_2147483647_3_3 : gk_go rk_lawx (gk_lc49 ++ gk_lb) (1820, gk_cutS 49 61 2147483647 3 3) = true := gk_fast (by decide +kernel)
set_option maxRecDepth 1000000 in
theorem gk_case49_m2147483648_0_4_4 : gk_go rk_lawx (gk_lc49 ++ gk_lb) (1820, gk_cutS 49 (-2147483648) 0 4 4) = true := gk_fast (by decide +kernel)
set_option maxRecDepth 1000000 in
theorem gk_case49_61_2147483647_4_4 : gk_go rk_lawx (gk_lc49 ++ gk_lb) (1820, gk_cutS 49 61 2147483647 4 4) = true := gk_fast (by decide +kernel)
set_option maxRecDepth 1000000 in
theorem gk_case49_m2147483648_0_5_5 : gk_go rk_lawx (gk_lc49 ++ gk_lb) (1820, gk_cutS 49 (-2147483648) 0 5 5) = true := gk_fast (by decide +kernel)
set_option maxRecDepth 1000000 in
theorem gk_case49_61_2147483647_5_5 : gk_go rk_lawx (gk_lc49 ++ gk_lb) (1820, gk_cutS 49 61 2147483647 5 5) = true := gk_fast (by decide +kernel)
set_option maxRecDepth 1000000 in
theorem gk_case49_m2147483648_0_6_6 : gk_go rk_lawx (gk_lc49 ++ gk_lb) (1820, gk_cutS 49 (-2147483648) 0 6 6) = true := gk_fast (by decide +kernel)
set_option maxRecDepth 1000000 in
theorem gk_case49_61_2147483647_6_6 : gk_go rk_lawx (gk_lc49 ++ gk_lb) (1820, gk_cutS 49 61 2147483647 6 6) = true := gk_fast (by decide +kernel)
set_option maxRecDepth 1000000 in
theorem gk_case49_m2147483648_2147483647_7_2147483647 : gk_go rk_lawx (gk_lc49 ++ gk_lb) (1820, gk_cutS 49 (-2147483648) 2147483647 7 2147483647) = true := gk_fast (by decide +kernel)
