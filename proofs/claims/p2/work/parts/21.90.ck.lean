set_option maxRecDepth 100000 in
theorem kc_ck0 : (kc_CT.take 10).all (sx_ck kc_G (sx_dpg kc_gd) ri_md kc_CT 5000) = true := by decide +kernel
