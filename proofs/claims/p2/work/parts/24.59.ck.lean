set_option maxRecDepth 100000 in
theorem km_ck37 : km_ix [223] = true := by decide +kernel
