set_option maxRecDepth 100000 in
theorem km_ck38 : km_ix [224] = true := by decide +kernel
