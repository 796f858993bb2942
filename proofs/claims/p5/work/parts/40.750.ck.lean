set_option maxRecDepth 100000 in
theorem km_ck28 : km_ix [293] = true := by decide +kernel
set_option maxRecDepth 100000 in
theorem km_ck30 : km_ix [295] = true := by decide +kernel
set_option maxRecDepth 100000 in
theorem km_ck25 : km_ix [212] = true := by decide +kernel
set_option maxRecDepth 100000 in
theorem km_ck26 : km_ix [291] = true := by decide +kernel
