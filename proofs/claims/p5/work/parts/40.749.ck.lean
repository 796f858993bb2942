set_option maxRecDepth 100000 in
theorem km_ck29 : km_ix [294] = true := by decide +kernel
