set_option maxRecDepth 100000 in
theorem urb_1_2 : sx_c_c km_G (mj_dp km_gd) ri_md kb_CT rb_1 5000 160 0 = true := by decide +kernel
