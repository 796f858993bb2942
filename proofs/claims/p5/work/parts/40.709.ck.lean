set_option maxRecDepth 100000 in
theorem km_ck36 : km_ix [350] = true := by decide +kernel
