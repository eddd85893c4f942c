/-! certificates are checked -/
theorem eh_0 : ex_chk eG eKT eDX 4000 kk_0 kc_0 = true := by decide +kernel
