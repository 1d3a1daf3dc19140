/-! ===== a constructor, run ===== -/
set_option maxRecDepth 1000000 in
theorem gk_p126 : gk_eqO (gk_call 126 [.inr (.inl 0)] (gk_env 0 6) [gk_newc 11]) gk_X126 = true := by decide +kernel
