/-! A run of the law by the kernel. -/
theorem run_36n : fx_run (fx_r0 fx_fu fx_ng fx_fu 36 36 6 6) = true := by decide +kernel
