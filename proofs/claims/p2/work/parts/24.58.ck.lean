set_option maxRecDepth 100000 in
theorem km_ck33 : km_ix [330] = true := by decide +kernel
set_option maxRecDepth 100000 in
theorem km_ck34 : km_ix [345] = true := by decide +kernel
set_option maxRecDepth 100000 in
theorem km_ck35 : km_ix [346] = true := by decide +kernel
set_option maxRecDepth 100000 in
theorem km_ck36 : km_ix [350] = true := by decide +kernel
