/-! ===== the calls, run ===== -/
set_option maxRecDepth 1000000 in
theorem gk_case44 : gk_go rk_lawx (gk_lc44 ++ gk_lb) (1695, gk_S 44) = true := gk_fast (by decide +kernel)
