set_option maxRecDepth 100000 in
theorem km_e325_1 : sx_c_e km_G (mj_dp km_gd) ri_md km_CT km_325 30 4970 3 3 = true := by decide +kernel
