set_option maxRecDepth 100000 in
theorem km_u346_0 : sx_c_c km_G (mj_dp km_gd) ri_md km_CT km_346 5000 0 12 = true := by decide +kernel
