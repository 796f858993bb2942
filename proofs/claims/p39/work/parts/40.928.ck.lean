set_option maxRecDepth 100000 in
theorem urb_1_1 : sx_c_c km_G (mj_dp km_gd) ri_md kb_CT rb_1 5000 80 80 = true := by decide +kernel
