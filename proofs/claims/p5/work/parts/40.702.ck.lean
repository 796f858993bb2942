set_option maxRecDepth 100000 in
theorem km_e292_2 : sx_c_e km_G (mj_dp km_gd) ri_md km_CT km_292 10 4990 6 3 = true := by decide +kernel
