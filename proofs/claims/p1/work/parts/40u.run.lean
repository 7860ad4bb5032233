/-! A run of the law by the kernel. -/
theorem run_36pp : fx_run (fx_r0 fx_ps fx_ps fx_ps 36 36 6 6) = true := by decide +kernel
