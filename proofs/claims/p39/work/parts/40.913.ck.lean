set_option maxRecDepth 100000 in
theorem uib_0_1 : sx_c_c km_G (mj_dp km_gd) ri_md kb_CT ib_0 5000 80 80 = true := by decide +kernel
