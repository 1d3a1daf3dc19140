/-! ===== the lake call: the class ===== -/
set_option maxRecDepth 1000000 in
theorem gk_case8a : gk_go (gk_stop2 610 gk_S8) (gk_lc8 ++ gk_lb) (601, gk_S 8) = true := gk_fast (by decide +kernel)
