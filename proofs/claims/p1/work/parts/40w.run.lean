/-! A run of the law by the kernel. -/
theorem run_37np : fx_run (fx_r0 fx_ng fx_ps fx_fu 37 37 6 6) = true := by decide +kernel
