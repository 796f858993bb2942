set_option maxRecDepth 100000 in
theorem km_ck15 : km_ix [319, 320, 321, 322, 323, 324, 326, 327, 329, 331, 332, 333, 334, 335, 336, 337, 338, 339, 340, 341] = true := by decide +kernel
set_option maxRecDepth 100000 in
theorem km_ck16 : km_ix [342, 343, 344, 347, 348, 349, 351] = true := by decide +kernel
