/-! A run of the law by the kernel. -/
theorem run_37nn : fx_run (fx_r0 fx_ng fx_ng fx_fu 37 37 6 6) = true := by decide +kernel
