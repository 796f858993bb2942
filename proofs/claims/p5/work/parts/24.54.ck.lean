set_option maxRecDepth 100000 in
theorem km_ck17 : km_ix [86] = true := by decide +kernel
set_option maxRecDepth 100000 in
theorem km_ck18 : km_ix [87] = true := by decide +kernel
set_option maxRecDepth 100000 in
theorem km_ck19 : km_ix [113] = true := by decide +kernel
set_option maxRecDepth 100000 in
theorem km_ck20 : km_ix [186] = true := by decide +kernel
