set_option maxRecDepth 100000 in
theorem km_u224_0 : sx_c_c km_G (mj_dp km_gd) ri_md km_CT km_224 5000 0 80 = true := by decide +kernel
