/-! ===== the constructors and the loop's head, run ===== -/
set_option maxRecDepth 1000000 in
theorem gk_pre : gk_go (gk_stop 16 (gk_S16 0 6)) (gk_la ++ gk_lb) (gk_q0 0 6) = true := by decide +kernel
set_option maxRecDepth 1000000 in
theorem gk_pre5 : gk_go rk_lawx (gk_la ++ gk_lb) (16, gk_S16 0 5) = true := by decide +kernel
set_option maxRecDepth 1000000 in
theorem gk_pre6 : gk_go (gk_stop 33 gk_S33) (gk_la ++ (gk_lb ++ gk_ld)) (16, gk_S16 6 6) = true := by decide +kernel
set_option maxRecDepth 1000000 in
theorem gk_dflt : gk_go rk_lawx gk_lb (2160, gk_Sd) = true := by decide +kernel
