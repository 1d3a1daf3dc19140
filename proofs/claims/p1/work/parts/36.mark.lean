/-! ===== the calls, run ===== -/
set_option maxRecDepth 1000000 in
theorem gk_case57 : gk_go rk_lawx (gk_lc57 ++ gk_lb) (2134, gk_S 57) = true := gk_fast (by decide +kernel)
