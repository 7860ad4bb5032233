/-! A run of the law by the kernel. -/
theorem run_32 : fx_run (fx_r0 fx_fu fx_fu fx_fu 32 32 6 6) = true := by decide +kernel
