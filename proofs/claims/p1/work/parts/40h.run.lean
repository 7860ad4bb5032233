/-! A run of the law by the kernel. -/
theorem run_15 : fx_run (fx_r0 fx_fu fx_fu fx_fu 15 19 6 6) = true := by decide +kernel
