/-! ===== the calls, run ===== -/
set_option maxRecDepth 1000000 in
theorem gk_case49_1_20_4_4 : gk_go rk_lawx (gk_lc49 ++ gk_lb) (1820, gk_cutS 49 1 20 4 4) = true := gk_fast (by decide +kernel)
set_option maxRecDepth 1000000 in
theorem gk_case49_21_40_4_4 : gk_go rk_lawx (gk_lc49 ++ gk_lb) (1820, gk_cutS 49 21 40 4 4) = true := gk_fast (by decide +kernel)
set_option maxRecDepth 1000000 in
theorem gk_case49_41_60_4_4 : gk_go rk_lawx (gk_lc49 ++ gk_lb) (1820, gk_cutS 49 41 60 4 4) = true := gk_fast (by decide +kernel)
