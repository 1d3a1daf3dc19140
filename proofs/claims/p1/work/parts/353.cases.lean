/-! ===== the calls, run ===== -/
set_option maxRecDepth 1000000 in
theorem gk_case49_1_20_3_3 : gk_go rk_lawx (gk_lc49 ++ gk_lb) (1820, gk_cutS 49 1 20 3 3) = true := gk_fast (by decide +kernel)
set_option maxRecDepth 1000000 in
theorem gk_case49_21_40_3_3 : gk_go rk_lawx (gk_lc49 ++ gk_lb) (1820, gk_cutS 49 21 40 3 3) = true := gk_fast (by decide +kernel)
set_option maxRecDepth 1000000 in
theorem gk_case49_41_60_3_3 : gk_go rk_lawx (gk_lc49 ++ gk_lb) (1820, gk_cutS 49 41 60 3 3) = true := gk_fast (by decide +kernel)
