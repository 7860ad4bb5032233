/-! A run of the law by the kernel. -/
theorem run_36np : fx_run (fx_r0 fx_ng fx_ps fx_ps 36 36 6 6) = true := by decide +kernel
