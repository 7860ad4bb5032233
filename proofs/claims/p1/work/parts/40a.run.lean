/-! A run of the law by the kernel. -/
theorem run_s : fx_run (fx_r0 fx_fu fx_fu fx_fu 0 63 0 5) = true := by decide +kernel
