set_option maxRecDepth 100000 in
theorem km_ck31 : km_ix [309] = true := by decide +kernel
