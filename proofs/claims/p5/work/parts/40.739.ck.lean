set_option maxRecDepth 100000 in
theorem km_e330_4 : sx_c_e km_G (mj_dp km_gd) ri_md km_CT km_330 20 4980 16 0 = true := by decide +kernel
