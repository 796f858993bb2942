set_option maxRecDepth 100000 in
theorem ck_kb_8 : sx_ck km_G (mj_dp km_gd) ri_md kb_CT 5000 kb_8 = true := by decide +kernel
