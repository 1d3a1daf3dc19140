/-! ===== the constructors and the loop's head, run ===== -/
set_option maxRecDepth 1000000 in
theorem gk_pre5 : gk_go rk_lawx (gk_la ++ gk_lb) (gk_q0 0 5) = true := by decide +kernel
set_option maxRecDepth 1000000 in
theorem gk_pre6 : gk_go gk_stop (gk_la ++ (gk_lb ++ gk_ld)) (gk_q0 6 6) = true := by decide +kernel
