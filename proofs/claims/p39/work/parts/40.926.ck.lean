set_option maxRecDepth 100000 in
theorem erb_1_0 : sx_c_e km_G (mj_dp km_gd) ri_md kb_CT rb_1 0 5000 0 0 = true := by decide +kernel
