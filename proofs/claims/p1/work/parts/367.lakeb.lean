/-! ===== the lake call: the model ===== -/
set_option maxRecDepth 1000000 in
theorem gk_case8b : gk_go rk_lawx (gk_lc8 ++ gk_lb) (610, gk_S8) = true := gk_fast (by decide +kernel)
