/-! ===== the calls, run ===== -/
set_option maxRecDepth 1000000 in
theorem gk_case49_1_20_5_5 : gk_go rk_lawx (gk_lc49 ++ gk_lb) (1820, gk_cutS 49 1 20 5 5) = true := gk_fast (by decide +kernel)
set_option maxRecDepth 1000000 in
theorem gk_case49_21_40_5_5 : gk_go rk_lawx (gk_lc49 ++ gk_lb) (1820, gk_cutS 49 21 40 5 5) = true := gk_fast (by decide +kernel)
set_option maxRecDepth 1000000 in
theorem gk_case49_41_60_5_5 : gk_go rk_lawx (gk_lc49 ++ gk_lb) (1820, gk_cutS 49 41 60 5 5) = true := gk_fast (by decide +kernel)
