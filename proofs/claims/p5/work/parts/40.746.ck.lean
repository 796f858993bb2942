set_option maxRecDepth 100000 in
theorem km_u325_0 : sx_c_c km_G (mj_dp km_gd) ri_md km_CT km_325 5000 0 0 = true := by decide +kernel
