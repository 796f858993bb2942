set_option maxRecDepth 100000 in
theorem km_e325_3 : sx_c_e km_G (mj_dp km_gd) ri_md km_CT km_325 30 4970 9 0 = true := by decide +kernel
