set_option maxRecDepth 100000 in
theorem km_u346_2 : sx_c_c km_G (mj_dp km_gd) ri_md km_CT km_346 5000 24 0 = true := by decide +kernel
