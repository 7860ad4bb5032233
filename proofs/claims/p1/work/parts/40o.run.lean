/-! A run of the law by the kernel. -/
theorem run_35n : fx_run (fx_r0 fx_ng fx_fu fx_fu 35 35 6 6) = true := by decide +kernel
