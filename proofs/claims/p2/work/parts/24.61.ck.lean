set_option maxRecDepth 100000 in
theorem km_ck39 : km_ix [328] = true := by decide +kernel
