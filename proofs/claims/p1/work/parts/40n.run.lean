/-! A run of the law by the kernel. -/
theorem run_34p : fx_run (fx_r0 fx_ps fx_fu fx_fu 34 34 6 6) = true := by decide +kernel
