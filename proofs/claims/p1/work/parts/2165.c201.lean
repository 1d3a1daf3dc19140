/-! ===== a constructor, run ===== -/
set_option maxRecDepth 1000000 in
theorem gk_p201 : gk_eqO (gk_call 201 [.inr (.inl 0)] (gk_env 0 6) [gk_newc 12]) gk_X201 = true := by decide +kernel
