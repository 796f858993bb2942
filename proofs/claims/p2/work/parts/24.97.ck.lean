set_option maxRecDepth 100000 in
theorem km_ck27 : km_ix [295] = true := by decide +kernel
set_option maxRecDepth 100000 in
theorem km_ck28 : km_ix [310] = true := by decide +kernel
set_option maxRecDepth 100000 in
theorem km_ck29 : km_ix [313] = true := by decide +kernel
