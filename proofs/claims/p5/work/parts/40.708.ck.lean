set_option maxRecDepth 100000 in
theorem km_ck34 : km_ix [345] = true := by decide +kernel
