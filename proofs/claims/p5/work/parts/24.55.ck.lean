set_option maxRecDepth 100000 in
theorem km_ck21 : km_ix [187] = true := by decide +kernel
set_option maxRecDepth 100000 in
theorem km_ck22 : km_ix [188] = true := by decide +kernel
set_option maxRecDepth 100000 in
theorem km_ck23 : km_ix [210] = true := by decide +kernel
set_option maxRecDepth 100000 in
theorem km_ck24 : km_ix [211] = true := by decide +kernel
