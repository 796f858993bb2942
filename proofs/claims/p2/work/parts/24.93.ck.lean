set_option maxRecDepth 100000 in
theorem km_ck15 : km_ix [88] = true := by decide +kernel
set_option maxRecDepth 100000 in
theorem km_ck16 : km_ix [89] = true := by decide +kernel
set_option maxRecDepth 100000 in
theorem km_ck17 : km_ix [112] = true := by decide +kernel
