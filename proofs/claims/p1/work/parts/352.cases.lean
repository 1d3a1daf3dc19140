/-! ===== the calls, run ===== -/
set_option maxRecDepth 1000000 in
theorem gk_case49_1_20_2_2 : gk_go rk_lawx (gk_lc49 ++ gk_lb) (1820, gk_cutS 49 1 20 2 2) = true := gk_fast (by decide +kernel)
set_option maxRecDepth 1000000 in
theorem gk_case49_21_40_2_2 : gk_go rk_lawx (gk_lc49 ++ gk_lb) (1820, gk_cutS 49 21 40 2 2) = true := gk_fast (by decide +kernel)
set_option maxRecDepth 1000000 in
theorem gk_case49_41_60_2_2 : gk_go rk_lawx (gk_lc49 ++ gk_lb) (1820, gk_cutS 49 41 60 2 2) = true := gk_fast (by decide +kernel)
