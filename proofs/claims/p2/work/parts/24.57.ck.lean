set_option maxRecDepth 100000 in
theorem km_ck29 : km_ix [294] = true := by decide +kernel
set_option maxRecDepth 100000 in
theorem km_ck30 : km_ix [295] = true := by decide +kernel
set_option maxRecDepth 100000 in
theorem km_ck31 : km_ix [309] = true := by decide +kernel
set_option maxRecDepth 100000 in
theorem km_ck32 : km_ix [325] = true := by decide +kernel
