/-! A run of the law by the kernel. -/
theorem run_38 : fx_run (fx_r0 fx_fu fx_fu fx_fu 38 63 6 6) = true := by decide +kernel
