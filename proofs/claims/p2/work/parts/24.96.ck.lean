set_option maxRecDepth 100000 in
theorem km_ck24 : km_ix [211] = true := by decide +kernel
set_option maxRecDepth 100000 in
theorem km_ck25 : km_ix [217] = true := by decide +kernel
set_option maxRecDepth 100000 in
theorem km_ck26 : km_ix [218] = true := by decide +kernel
