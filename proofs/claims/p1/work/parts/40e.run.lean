/-! A run of the law by the kernel. -/
theorem run_10 : fx_run (fx_r0 fx_fu fx_fu fx_fu 10 11 6 6) = true := by decide +kernel
