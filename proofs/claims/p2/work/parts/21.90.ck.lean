set_option maxRecDepth 100000 in
theorem kc_ck0 : ((kc_CT.drop 0).take 30).all (sx_ck kc_G (sx_dpg kc_gd) ri_md kc_CT 5000) = true := by decide +kernel
set_option maxRecDepth 100000 in
theorem kc_ck1 : ((kc_CT.drop 30).take 30).all (sx_ck kc_G (sx_dpg kc_gd) ri_md kc_CT 5000) = true := by decide +kernel
set_option maxRecDepth 100000 in
theorem kc_ck2 : ((kc_CT.drop 60).take 30).all (sx_ck kc_G (sx_dpg kc_gd) ri_md kc_CT 5000) = true := by decide +kernel
set_option maxRecDepth 100000 in
theorem kc_ck3 : ((kc_CT.drop 90).take 30).all (sx_ck kc_G (sx_dpg kc_gd) ri_md kc_CT 5000) = true := by decide +kernel
set_option maxRecDepth 100000 in
theorem kc_ck4 : ((kc_CT.drop 120).take 30).all (sx_ck kc_G (sx_dpg kc_gd) ri_md kc_CT 5000) = true := by decide +kernel
set_option maxRecDepth 100000 in
theorem kc_ck5 : ((kc_CT.drop 150).take 30).all (sx_ck kc_G (sx_dpg kc_gd) ri_md kc_CT 5000) = true := by decide +kernel
set_option maxRecDepth 100000 in
theorem kc_ck6 : ((kc_CT.drop 180).take 30).all (sx_ck kc_G (sx_dpg kc_gd) ri_md kc_CT 5000) = true := by decide +kernel
set_option maxRecDepth 100000 in
theorem kc_ck7 : ((kc_CT.drop 210).take 30).all (sx_ck kc_G (sx_dpg kc_gd) ri_md kc_CT 5000) = true := by decide +kernel
set_option maxRecDepth 100000 in
theorem kc_ck8 : ((kc_CT.drop 240).take 30).all (sx_ck kc_G (sx_dpg kc_gd) ri_md kc_CT 5000) = true := by decide +kernel
