set_option maxRecDepth 100000 in
theorem ot_law : ri_okT ri_md ri_law = true := by decide +kernel
set_option maxRecDepth 100000 in
theorem lw_pre : ri_sn (ri_st [] (ri_call [] ri_md 9) (ri_bud ri_md) ri_law) 13 (0, [(0, .retAddr 8)], [], [], 0, 0) = some (23, lo_law, [], h_fr, 228, 7820) := by decide +kernel
