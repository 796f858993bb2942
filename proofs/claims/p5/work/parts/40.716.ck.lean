set_option maxRecDepth 100000 in
theorem km_u328_0 : sx_c_c km_G (mj_dp km_gd) ri_md km_CT km_328 5000 0 33 = true := by decide +kernel
