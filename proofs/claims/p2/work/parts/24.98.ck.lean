set_option maxRecDepth 100000 in
theorem km_ck30 : km_ix [326] = true := by decide +kernel
set_option maxRecDepth 100000 in
theorem km_ck31 : km_ix [327] = true := by decide +kernel
set_option maxRecDepth 100000 in
theorem km_ck32 : km_ix [331] = true := by decide +kernel
