/-! ===== the calls, run ===== -/
set_option maxRecDepth 1000000 in
theorem gk_case8 : gk_go rk_lawx (gk_lc8 ++ gk_lb) (601, gk_S 8) = true := gk_fast (by decide +kernel)
