set_option maxRecDepth 100000 in
theorem km_e223_0 : sx_c_e km_G (mj_dp km_gd) ri_md km_CT km_223 0 5000 0 0 = true := by decide +kernel
