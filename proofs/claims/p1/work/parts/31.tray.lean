/-! ===== the calls, run ===== -/
set_option maxRecDepth 1000000 in
theorem gk_case3 : gk_go rk_lawx (gk_lc3 ++ gk_lb) (325, gk_S 3) = true := gk_fast (by decide +kernel)
