set_option maxRecDepth 100000 in
theorem km_u328_3 : sx_c_c km_G (mj_dp km_gd) ri_md km_CT km_328 5000 99 0 = true := by decide +kernel
