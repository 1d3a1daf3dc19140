/-! ===== a constructor, run ===== -/
set_option maxRecDepth 1000000 in
theorem gk_p201 : gk_eqO (gk_call 201 [.inr (.inl 0)] (gk_env 0 3072) [gk_newc 12]) gk_X201 = true := by decide +kernel
/-! ===== a constructor, run ===== -/
set_option maxRecDepth 1000000 in
theorem gk_p126 : gk_eqO (gk_call 126 [.inr (.inl 0)] (gk_env 0 3072) [gk_newc 11]) gk_X126 = true := by decide +kernel
theorem gk_lai : ∀ r ∈ gk_la, decode code r.1 = .ok r.2 := by decide +kernel
set_option maxRecDepth 1000000 in
theorem gk_pre : gk_go (gk_stop 16 (gk_S16 0 3072)) gk_la (gk_q0 0 3072) = true := by decide +kernel
