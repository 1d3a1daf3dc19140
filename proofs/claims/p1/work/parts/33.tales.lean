/-! ===== the calls, run ===== -/
set_option maxRecDepth 1000000 in
theorem gk_case9 : gk_go rk_lawx (gk_lc9 ++ gk_lb) (624, gk_S 9) = true := gk_fast (by decide +kernel)
set_option maxRecDepth 1000000 in
theorem gk_case21 : gk_go rk_lawx (gk_lc21 ++ gk_lb) (980, gk_S 21) = true := gk_fast (by decide +kernel)
