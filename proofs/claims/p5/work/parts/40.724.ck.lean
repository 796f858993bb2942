set_option maxRecDepth 100000 in
theorem km_u223_2 : sx_c_c km_G (mj_dp km_gd) ri_md km_CT km_223 5000 160 80 = true := by decide +kernel
