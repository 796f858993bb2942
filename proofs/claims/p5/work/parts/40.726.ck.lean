set_option maxRecDepth 100000 in
theorem km_u223_4 : sx_c_c km_G (mj_dp km_gd) ri_md km_CT km_223 5000 320 0 = true := by decide +kernel
